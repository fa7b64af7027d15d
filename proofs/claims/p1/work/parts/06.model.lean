theorem dX12_within_0 : decode cX12_within 0 = .ok (.iload_n 0, 1) := by decide +kernel
theorem dX12_within_1 : decode cX12_within 1 = .ok (.iload_n 1, 1) := by decide +kernel
theorem dX12_within_2 : decode cX12_within 2 = .ok (.if_icmp .lt 12, 3) := by decide +kernel
theorem dX12_within_14 : decode cX12_within 14 = .ok (.iconst 0, 1) := by decide +kernel
theorem dX12_within_15 : decode cX12_within 15 = .ok (.ireturn, 1) := by decide +kernel
theorem dX12_within_5 : decode cX12_within 5 = .ok (.iload_n 0, 1) := by decide +kernel
theorem dX12_within_6 : decode cX12_within 6 = .ok (.iload_n 2, 1) := by decide +kernel
theorem dX12_within_7 : decode cX12_within 7 = .ok (.if_icmp .gt 7, 3) := by decide +kernel
theorem dX12_within_10 : decode cX12_within 10 = .ok (.iconst 1, 1) := by decide +kernel
theorem dX12_within_11 : decode cX12_within 11 = .ok (.goto 4, 3) := by decide +kernel
theorem dX12_isHour_0 : decode cX12_isHour 0 = .ok (.iload_n 0, 1) := by decide +kernel
theorem dX12_isHour_1 : decode cX12_isHour 1 = .ok (.iconst 0, 1) := by decide +kernel
theorem dX12_isHour_2 : decode cX12_isHour 2 = .ok (.sipush 239, 3) := by decide +kernel
set_option maxRecDepth 20000 in
theorem ggX12_isHour_X12_within : GoodIn wsX12_isHour wsX12_within := goodIn_r _ [4] (by decide +kernel) (by decide +kernel)
set_option maxRecDepth 20000 in
theorem gX12_isHour_X12_within : GoodIn wsX12_isHour (va_wsS RX12 186 yX12_within wsX12_within) := goodIn_app (goodIn_of _ (by decide +kernel)) ggX12_isHour_X12_within
theorem dX12_isHour_5 : decode cX12_isHour 5 = .ok (.invokestatic 186, 3) := by decide +kernel
theorem dX12_isHour_8 : decode cX12_isHour 8 = .ok (.ireturn, 1) := by decide +kernel
theorem dX12_isCell_0 : decode cX12_isCell 0 = .ok (.iload_n 0, 1) := by decide +kernel
theorem dX12_isCell_1 : decode cX12_isCell 1 = .ok (.iconst 0, 1) := by decide +kernel
theorem dX12_isCell_2 : decode cX12_isCell 2 = .ok (.bipush 63, 2) := by decide +kernel
set_option maxRecDepth 20000 in
theorem ggX12_isCell_X12_within : GoodIn wsX12_isCell wsX12_within := goodIn_r _ [4] (by decide +kernel) (by decide +kernel)
set_option maxRecDepth 20000 in
theorem gX12_isCell_X12_within : GoodIn wsX12_isCell (va_wsS RX12 186 yX12_within wsX12_within) := goodIn_app (goodIn_of _ (by decide +kernel)) ggX12_isCell_X12_within
theorem dX12_isCell_4 : decode cX12_isCell 4 = .ok (.invokestatic 186, 3) := by decide +kernel
theorem dX12_isCell_7 : decode cX12_isCell 7 = .ok (.ireturn, 1) := by decide +kernel
theorem dX12_isWave_0 : decode cX12_isWave 0 = .ok (.iload_n 0, 1) := by decide +kernel
theorem dX12_isWave_1 : decode cX12_isWave 1 = .ok (.iconst 0, 1) := by decide +kernel
theorem dX12_isWave_2 : decode cX12_isWave 2 = .ok (.iconst 3, 1) := by decide +kernel
set_option maxRecDepth 20000 in
theorem ggX12_isWave_X12_within : GoodIn wsX12_isWave wsX12_within := goodIn_r _ [4] (by decide +kernel) (by decide +kernel)
set_option maxRecDepth 20000 in
theorem gX12_isWave_X12_within : GoodIn wsX12_isWave (va_wsS RX12 186 yX12_within wsX12_within) := goodIn_app (goodIn_of _ (by decide +kernel)) ggX12_isWave_X12_within
theorem dX12_isWave_3 : decode cX12_isWave 3 = .ok (.invokestatic 186, 3) := by decide +kernel
theorem dX12_isWave_6 : decode cX12_isWave 6 = .ok (.ireturn, 1) := by decide +kernel
theorem dX12_isSheet_0 : decode cX12_isSheet 0 = .ok (.iload_n 0, 1) := by decide +kernel
theorem dX12_isSheet_1 : decode cX12_isSheet 1 = .ok (.iconst 0, 1) := by decide +kernel
theorem dX12_isSheet_2 : decode cX12_isSheet 2 = .ok (.iconst 3, 1) := by decide +kernel
set_option maxRecDepth 20000 in
theorem ggX12_isSheet_X12_within : GoodIn wsX12_isSheet wsX12_within := goodIn_r _ [4] (by decide +kernel) (by decide +kernel)
set_option maxRecDepth 20000 in
theorem gX12_isSheet_X12_within : GoodIn wsX12_isSheet (va_wsS RX12 186 yX12_within wsX12_within) := goodIn_app (goodIn_of _ (by decide +kernel)) ggX12_isSheet_X12_within
theorem dX12_isSheet_3 : decode cX12_isSheet 3 = .ok (.invokestatic 186, 3) := by decide +kernel
theorem dX12_isSheet_6 : decode cX12_isSheet 6 = .ok (.ireturn, 1) := by decide +kernel
theorem dX12_areHours_0 : decode cX12_areHours 0 = .ok (.iload_n 0, 1) := by decide +kernel
theorem dX12_areHours_1 : decode cX12_areHours 1 = .ok (.iconst 0, 1) := by decide +kernel
theorem dX12_areHours_2 : decode cX12_areHours 2 = .ok (.sipush 240, 3) := by decide +kernel
set_option maxRecDepth 20000 in
theorem ggX12_areHours_X12_within : GoodIn wsX12_areHours wsX12_within := goodIn_r _ [4] (by decide +kernel) (by decide +kernel)
set_option maxRecDepth 20000 in
theorem gX12_areHours_X12_within : GoodIn wsX12_areHours (va_wsS RX12 186 yX12_within wsX12_within) := goodIn_app (goodIn_of _ (by decide +kernel)) ggX12_areHours_X12_within
theorem dX12_areHours_5 : decode cX12_areHours 5 = .ok (.invokestatic 186, 3) := by decide +kernel
theorem dX12_areHours_8 : decode cX12_areHours 8 = .ok (.ifCond .eq 20, 3) := by decide +kernel
theorem dX12_areHours_11 : decode cX12_areHours 11 = .ok (.iload_n 1, 1) := by decide +kernel
theorem dX12_areHours_12 : decode cX12_areHours 12 = .ok (.iload_n 0, 1) := by decide +kernel
theorem dX12_areHours_13 : decode cX12_areHours 13 = .ok (.iconst 1, 1) := by decide +kernel
theorem dX12_areHours_14 : decode cX12_areHours 14 = .ok (.iadd, 1) := by decide +kernel
theorem dX12_areHours_15 : decode cX12_areHours 15 = .ok (.sipush 240, 3) := by decide +kernel
theorem dX12_areHours_18 : decode cX12_areHours 18 = .ok (.invokestatic 186, 3) := by decide +kernel
theorem dX12_areHours_21 : decode cX12_areHours 21 = .ok (.ifCond .eq 7, 3) := by decide +kernel
theorem dX12_areHours_24 : decode cX12_areHours 24 = .ok (.iconst 1, 1) := by decide +kernel
theorem dX12_areHours_25 : decode cX12_areHours 25 = .ok (.goto 4, 3) := by decide +kernel
theorem dX12_areHours_29 : decode cX12_areHours 29 = .ok (.ireturn, 1) := by decide +kernel
theorem dX12_areHours_28 : decode cX12_areHours 28 = .ok (.iconst 0, 1) := by decide +kernel
theorem dX12_isBody_0 : decode cX12_isBody 0 = .ok (.iload_n 1, 1) := by decide +kernel
theorem dX12_isBody_1 : decode cX12_isBody 1 = .ok (.ifCond .lt 15, 3) := by decide +kernel
theorem dX12_isBody_16 : decode cX12_isBody 16 = .ok (.iconst 0, 1) := by decide +kernel
theorem dX12_isBody_17 : decode cX12_isBody 17 = .ok (.ireturn, 1) := by decide +kernel
theorem dX12_isBody_4 : decode cX12_isBody 4 = .ok (.iload_n 1, 1) := by decide +kernel
theorem dX12_isBody_5 : decode cX12_isBody 5 = .ok (.aload_n 0, 1) := by decide +kernel
theorem dX12_isBody_6 : decode cX12_isBody 6 = .ok (.getfield 190, 3) := by decide +kernel
theorem dX12_isBody_9 : decode cX12_isBody 9 = .ok (.if_icmp .ge 7, 3) := by decide +kernel
theorem dX12_isCall_0 : decode cX12_isCall 0 = .ok (.iload_n 1, 1) := by decide +kernel
theorem dX12_isCall_1 : decode cX12_isCall 1 = .ok (.ifCond .lt 15, 3) := by decide +kernel
theorem dX12_isCall_16 : decode cX12_isCall 16 = .ok (.iconst 0, 1) := by decide +kernel
theorem dX12_isCall_17 : decode cX12_isCall 17 = .ok (.ireturn, 1) := by decide +kernel
theorem dX12_isCall_4 : decode cX12_isCall 4 = .ok (.iload_n 1, 1) := by decide +kernel
theorem dX12_isCall_5 : decode cX12_isCall 5 = .ok (.aload_n 0, 1) := by decide +kernel
theorem dX12_isCall_6 : decode cX12_isCall 6 = .ok (.getfield 252, 3) := by decide +kernel
theorem dX12_isCall_9 : decode cX12_isCall 9 = .ok (.if_icmp .ge 7, 3) := by decide +kernel
theorem dX12_isStory_0 : decode cX12_isStory 0 = .ok (.iload_n 1, 1) := by decide +kernel
theorem dX12_isStory_1 : decode cX12_isStory 1 = .ok (.ifCond .lt 15, 3) := by decide +kernel
theorem dX12_isStory_16 : decode cX12_isStory 16 = .ok (.iconst 0, 1) := by decide +kernel
theorem dX12_isStory_17 : decode cX12_isStory 17 = .ok (.ireturn, 1) := by decide +kernel
theorem dX12_isStory_4 : decode cX12_isStory 4 = .ok (.iload_n 1, 1) := by decide +kernel
theorem dX12_isStory_5 : decode cX12_isStory 5 = .ok (.aload_n 0, 1) := by decide +kernel
theorem dX12_isStory_6 : decode cX12_isStory 6 = .ok (.getfield 440, 3) := by decide +kernel
theorem dX12_isStory_9 : decode cX12_isStory 9 = .ok (.if_icmp .ge 7, 3) := by decide +kernel
theorem dX12_isSeeker_0 : decode cX12_isSeeker 0 = .ok (.aload_n 0, 1) := by decide +kernel
theorem dX12_isSeeker_1 : decode cX12_isSeeker 1 = .ok (.iload_n 1, 1) := by decide +kernel
set_option maxRecDepth 20000 in
theorem ggX12_isSeeker_X12_isBody : GoodIn wsX12_isSeeker wsX12_isBody := goodIn_r _ [6, 7, 8, 9, 10, 11, 12, 13, 14, 15, 16, 17, 18, 19, 20, 21, 22, 23, 24, 25, 26, 27, 28, 29, 30, 31, 32, 33, 34, 35, 36, 37, 38, 39, 40, 41, 42, 43, 44, 45, 46, 47, 48, 49, 50, 51, 52, 53, 54, 55, 56, 57, 58, 59, 60, 61, 62, 63, 64, 65, 66, 67, 68, 69, 70, 71, 72, 73, 74, 75, 76, 77, 78, 79, 80, 81, 82, 83, 84, 85, 86] (by decide +kernel) (by decide +kernel)
set_option maxRecDepth 20000 in
theorem gX12_isSeeker_X12_isBody : GoodIn wsX12_isSeeker (wsV RX12 193 RX12 yX12_isBody wsX12_isBody) := goodIn_app (goodIn_of _ (by decide +kernel)) ggX12_isSeeker_X12_isBody
theorem dX12_isSeeker_2 : decode cX12_isSeeker 2 = .ok (.invokevirtual 193, 3) := by decide +kernel
theorem dX12_isSeeker_5 : decode cX12_isSeeker 5 = .ok (.ifCond .eq 27, 3) := by decide +kernel
theorem dX12_isSeeker_32 : decode cX12_isSeeker 32 = .ok (.iconst 0, 1) := by decide +kernel
theorem dX12_isSeeker_33 : decode cX12_isSeeker 33 = .ok (.ireturn, 1) := by decide +kernel
theorem dX12_bodyTold_0 : decode cX12_bodyTold 0 = .ok (.aload_n 0, 1) := by decide +kernel
theorem dX12_bodyTold_1 : decode cX12_bodyTold 1 = .ok (.iload_n 1, 1) := by decide +kernel
set_option maxRecDepth 20000 in
theorem ggX12_bodyTold_X12_isBody : GoodIn wsX12_bodyTold wsX12_isBody := goodIn_r _ [12, 13, 22, 23, 24, 25, 26, 27, 28, 29, 30, 31, 32, 33, 34, 35, 36, 37, 38, 39, 40, 41, 42, 43, 44, 45, 46, 47, 48, 49, 50, 51, 52, 53, 54, 55, 56, 57, 58, 59, 60, 61, 62, 63, 64, 65, 66, 67, 68, 69, 70, 71, 72, 73, 74, 75, 76, 77, 78, 79, 80, 81, 82, 83, 84, 85, 86, 87, 88, 89, 90, 91, 92, 93, 94, 95, 96, 97, 98, 99, 100] (by decide +kernel) (by decide +kernel)
set_option maxRecDepth 20000 in
theorem gX12_bodyTold_X12_isBody : GoodIn wsX12_bodyTold (wsV RX12 193 RX12 yX12_isBody wsX12_isBody) := goodIn_app (goodIn_of _ (by decide +kernel)) ggX12_bodyTold_X12_isBody
theorem dX12_bodyTold_2 : decode cX12_bodyTold 2 = .ok (.invokevirtual 193, 3) := by decide +kernel
theorem dX12_bodyTold_5 : decode cX12_bodyTold 5 = .ok (.ifCond .ne 6, 3) := by decide +kernel
theorem dX12_bodyTold_8 : decode cX12_bodyTold 8 = .ok (.bipush (-2), 2) := by decide +kernel
theorem dX12_bodyTold_10 : decode cX12_bodyTold 10 = .ok (.ireturn, 1) := by decide +kernel
theorem dX12_patch_0 : decode cX12_patch 0 = .ok (.aload_n 0, 1) := by decide +kernel
theorem dX12_patch_1 : decode cX12_patch 1 = .ok (.iload_n 1, 1) := by decide +kernel
set_option maxRecDepth 20000 in
theorem ggX12_patch_X12_isBody : GoodIn wsX12_patch wsX12_isBody := goodIn_r _ [8, 9, 37, 38, 39, 40, 41, 42, 43, 44, 45, 46, 47, 48, 49, 50, 51, 52, 53, 54, 55, 56, 57, 58, 59, 60, 61, 62, 63, 64, 65, 66, 67, 68, 69, 70, 71, 72, 73, 74, 75, 76, 77, 78, 79, 80, 81, 82, 83, 84, 85, 86, 87, 88, 89, 90, 91, 92, 93, 94, 95, 96, 97, 98, 99, 100, 101, 102, 103, 104, 105, 106, 107, 108, 109, 110, 111, 112, 113, 114, 115] (by decide +kernel) (by decide +kernel)
set_option maxRecDepth 20000 in
theorem gX12_patch_X12_isBody : GoodIn wsX12_patch (wsV RX12 193 RX12 yX12_isBody wsX12_isBody) := goodIn_app (goodIn_of _ (by decide +kernel)) ggX12_patch_X12_isBody
theorem dX12_patch_2 : decode cX12_patch 2 = .ok (.invokevirtual 193, 3) := by decide +kernel
theorem dX12_patch_5 : decode cX12_patch 5 = .ok (.ifCond .eq 43, 3) := by decide +kernel
theorem dX12_patch_48 : decode cX12_patch 48 = .ok (.ldc2_w 236, 3) := by decide +kernel
theorem dX12_patch_51 : decode cX12_patch 51 = .ok (.lreturn, 1) := by decide +kernel
theorem dX12_share_0 : decode cX12_share 0 = .ok (.aload_n 0, 1) := by decide +kernel
theorem dX12_share_1 : decode cX12_share 1 = .ok (.iload_n 1, 1) := by decide +kernel
set_option maxRecDepth 20000 in
theorem ggX12_share_X12_isBody : GoodIn wsX12_share wsX12_isBody := goodIn_r _ [8, 9, 54, 55, 56, 57, 58, 59, 60, 61, 62, 63, 64, 65, 66, 67, 68, 69, 70, 71, 72, 73, 74, 75, 76, 77, 78, 79, 80, 81, 82, 83, 84, 85, 86, 87, 88, 89, 90, 91, 92, 93, 94, 95, 96, 97, 98, 99, 100, 101, 102, 103, 104, 105, 106, 107, 108, 109, 110, 111, 112, 113, 114, 115, 116, 117, 118, 119, 120, 121, 122, 123, 124, 125, 126, 127, 128, 129, 130, 131, 132] (by decide +kernel) (by decide +kernel)
set_option maxRecDepth 20000 in
theorem gX12_share_X12_isBody : GoodIn wsX12_share (wsV RX12 193 RX12 yX12_isBody wsX12_isBody) := goodIn_app (goodIn_of _ (by decide +kernel)) ggX12_share_X12_isBody
theorem dX12_share_2 : decode cX12_share 2 = .ok (.invokevirtual 193, 3) := by decide +kernel
theorem dX12_share_5 : decode cX12_share 5 = .ok (.ifCond .eq 19, 3) := by decide +kernel
theorem dX12_share_24 : decode cX12_share 24 = .ok (.ldc2_w 236, 3) := by decide +kernel
theorem dX12_share_27 : decode cX12_share 27 = .ok (.lreturn, 1) := by decide +kernel
theorem dX12_parted_0 : decode cX12_parted 0 = .ok (.aload_n 0, 1) := by decide +kernel
theorem dX12_parted_1 : decode cX12_parted 1 = .ok (.iload_n 1, 1) := by decide +kernel
set_option maxRecDepth 20000 in
theorem ggX12_parted_X12_isBody : GoodIn wsX12_parted wsX12_isBody := goodIn_r _ [12, 1, 63, 64, 65, 66, 67, 68, 69, 70, 71, 72, 73, 74, 75, 76, 77, 78, 79, 80, 81, 82, 83, 84, 85, 86, 87, 88, 89, 90, 91, 92, 93, 94, 95, 96, 97, 98, 99, 100, 101, 102, 103, 104, 105, 106, 107, 108, 109, 110, 111, 112, 113, 114, 115, 116, 117, 118, 119, 120, 121, 122, 123, 124, 125, 126, 127, 128, 129, 130, 131, 132, 133, 134, 135, 136, 137, 138, 139, 140, 141] (by decide +kernel) (by decide +kernel)
set_option maxRecDepth 20000 in
theorem gX12_parted_X12_isBody : GoodIn wsX12_parted (wsV RX12 193 RX12 yX12_isBody wsX12_isBody) := goodIn_app (goodIn_of _ (by decide +kernel)) ggX12_parted_X12_isBody
theorem dX12_parted_2 : decode cX12_parted 2 = .ok (.invokevirtual 193, 3) := by decide +kernel
theorem dX12_parted_5 : decode cX12_parted 5 = .ok (.ifCond .eq 41, 3) := by decide +kernel
theorem dX12_parted_46 : decode cX12_parted 46 = .ok (.iconst 0, 1) := by decide +kernel
theorem dX12_parted_47 : decode cX12_parted 47 = .ok (.istore 5, 2) := by decide +kernel
theorem dX12_parted_49 : decode cX12_parted 49 = .ok (.iconst 0, 1) := by decide +kernel
theorem dX12_parted_50 : decode cX12_parted 50 = .ok (.istore 6, 2) := by decide +kernel
theorem dX12_parted_52 : decode cX12_parted 52 = .ok (.iload 6, 2) := by decide +kernel
theorem dX12_parted_54 : decode cX12_parted 54 = .ok (.bipush 12, 2) := by decide +kernel
theorem dX12_parted_56 : decode cX12_parted 56 = .ok (.if_icmp .ge 39, 3) := by decide +kernel
theorem dX12_parted_59 : decode cX12_parted 59 = .ok (.iload 5, 2) := by decide +kernel
theorem dX12_parted_61 : decode cX12_parted 61 = .ok (.ifCond .eq 25, 3) := by decide +kernel
theorem dX12_parted_86 : decode cX12_parted 86 = .ok (.iconst 0, 1) := by decide +kernel
theorem dX12_parted_87 : decode cX12_parted 87 = .ok (.istore 5, 2) := by decide +kernel
theorem dX12_parted_89 : decode cX12_parted 89 = .ok (.iinc 6 1, 3) := by decide +kernel
theorem dX12_parted_92 : decode cX12_parted 92 = .ok (.goto (-40), 3) := by decide +kernel
theorem dX12_parted_95 : decode cX12_parted 95 = .ok (.iload 5, 2) := by decide +kernel
theorem dX12_parted_97 : decode cX12_parted 97 = .ok (.ifCond .ne 6, 3) := by decide +kernel
theorem dX12_parted_100 : decode cX12_parted 100 = .ok (.bipush (-2), 2) := by decide +kernel
theorem dX12_parted_102 : decode cX12_parted 102 = .ok (.ireturn, 1) := by decide +kernel
theorem dX12_comes_0 : decode cX12_comes 0 = .ok (.aload_n 0, 1) := by decide +kernel
theorem dX12_comes_1 : decode cX12_comes 1 = .ok (.iload_n 1, 1) := by decide +kernel
set_option maxRecDepth 20000 in
theorem ggX12_comes_X12_isSeeker : GoodIn wsX12_comes wsX12_isSeeker := goodIn_r _ [5, 6, 7, 8, 9, 4, 10, 11, 49, 50, 51, 52, 53, 54, 55, 56, 57, 58, 59, 60, 61, 62, 63, 64, 65, 66, 67, 68, 69, 70, 71, 72, 73, 74, 75, 76, 77, 78, 79, 80, 81, 82, 83, 84, 85, 86, 87, 88, 89, 90, 91, 92, 93, 94, 95, 96, 97, 98, 99, 100, 101, 102, 103, 104, 105, 106, 107, 108, 109, 110, 111, 112, 113, 114, 115, 116, 117, 118, 119, 120, 121, 122, 123, 124, 125, 126, 127] (by decide +kernel) (by decide +kernel)
set_option maxRecDepth 20000 in
theorem gX12_comes_X12_isSeeker : GoodIn wsX12_comes (wsV RX12 275 RX12 yX12_isSeeker wsX12_isSeeker) := goodIn_app (goodIn_of _ (by decide +kernel)) ggX12_comes_X12_isSeeker
theorem dX12_comes_2 : decode cX12_comes 2 = .ok (.invokevirtual 275, 3) := by decide +kernel
theorem dX12_comes_5 : decode cX12_comes 5 = .ok (.ifCond .eq 37, 3) := by decide +kernel
theorem dX12_comes_42 : decode cX12_comes 42 = .ok (.bipush (-2), 2) := by decide +kernel
theorem dX12_comes_44 : decode cX12_comes 44 = .ok (.ireturn, 1) := by decide +kernel
theorem dX12_last_0 : decode cX12_last 0 = .ok (.aload_n 0, 1) := by decide +kernel
theorem dX12_last_1 : decode cX12_last 1 = .ok (.iload_n 1, 1) := by decide +kernel
set_option maxRecDepth 20000 in
theorem ggX12_last_X12_isSeeker : GoodIn wsX12_last wsX12_isSeeker := goodIn_r _ [5, 6, 7, 8, 9, 4, 10, 11, 46, 47, 48, 49, 50, 51, 52, 53, 54, 55, 56, 57, 58, 59, 60, 61, 62, 63, 64, 65, 66, 67, 68, 69, 70, 71, 72, 73, 74, 75, 76, 77, 78, 79, 80, 81, 82, 83, 84, 85, 86, 87, 88, 89, 90, 91, 92, 93, 94, 95, 96, 97, 98, 99, 100, 101, 102, 103, 104, 105, 106, 107, 108, 109, 110, 111, 112, 113, 114, 115, 116, 117, 118, 119, 120, 121, 122, 123, 124] (by decide +kernel) (by decide +kernel)
set_option maxRecDepth 20000 in
theorem gX12_last_X12_isSeeker : GoodIn wsX12_last (wsV RX12 275 RX12 yX12_isSeeker wsX12_isSeeker) := goodIn_app (goodIn_of _ (by decide +kernel)) ggX12_last_X12_isSeeker
theorem dX12_last_2 : decode cX12_last 2 = .ok (.invokevirtual 275, 3) := by decide +kernel
theorem dX12_last_5 : decode cX12_last 5 = .ok (.ifCond .eq 17, 3) := by decide +kernel
theorem dX12_last_22 : decode cX12_last 22 = .ok (.bipush (-2), 2) := by decide +kernel
theorem dX12_last_24 : decode cX12_last 24 = .ok (.ireturn, 1) := by decide +kernel
theorem dX12_man_0 : decode cX12_man 0 = .ok (.aload_n 0, 1) := by decide +kernel
theorem dX12_man_1 : decode cX12_man 1 = .ok (.iload_n 1, 1) := by decide +kernel
set_option maxRecDepth 20000 in
theorem ggX12_man_X12_isBody : GoodIn wsX12_man wsX12_isBody := goodIn_r _ [10, 11, 15, 16, 17, 18, 19, 20, 21, 22, 23, 24, 25, 26, 27, 28, 29, 30, 31, 32, 33, 34, 35, 36, 37, 38, 39, 40, 41, 42, 43, 44, 45, 46, 47, 48, 49, 50, 51, 52, 53, 54, 55, 56, 57, 58, 59, 60, 61, 62, 63, 64, 65, 66, 67, 68, 69, 70, 71, 72, 73, 74, 75, 76, 77, 78, 79, 80, 81, 82, 83, 84, 85, 86, 87, 88, 89, 90, 91, 92, 93] (by decide +kernel) (by decide +kernel)
set_option maxRecDepth 20000 in
theorem gX12_man_X12_isBody : GoodIn wsX12_man (wsV RX12 193 RX12 yX12_isBody wsX12_isBody) := goodIn_app (goodIn_of _ (by decide +kernel)) ggX12_man_X12_isBody
theorem dX12_man_2 : decode cX12_man 2 = .ok (.invokevirtual 193, 3) := by decide +kernel
theorem dX12_man_5 : decode cX12_man 5 = .ok (.ifCond .eq 34, 3) := by decide +kernel
theorem dX12_man_39 : decode cX12_man 39 = .ok (.bipush (-2), 2) := by decide +kernel
theorem dX12_man_41 : decode cX12_man 41 = .ok (.ireturn, 1) := by decide +kernel
theorem dX12_first_0 : decode cX12_first 0 = .ok (.aload_n 0, 1) := by decide +kernel
theorem dX12_first_1 : decode cX12_first 1 = .ok (.iload_n 1, 1) := by decide +kernel
set_option maxRecDepth 20000 in
theorem ggX12_first_X12_isBody : GoodIn wsX12_first wsX12_isBody := goodIn_r _ [9, 10, 145, 146, 147, 148, 149, 150, 151, 152, 153, 154, 155, 156, 157, 158, 159, 160, 161, 162, 163, 164, 165, 166, 167, 168, 169, 170, 171, 172, 173, 174, 175, 176, 177, 178, 179, 180, 181, 182, 183, 184, 185, 186, 187, 188, 189, 190, 191, 192, 193, 194, 195, 196, 197, 198, 199, 200, 201, 202, 203, 204, 205, 206, 207, 208, 209, 210, 211, 212, 213, 214, 215, 216, 217, 218, 219, 220, 221, 222, 223] (by decide +kernel) (by decide +kernel)
set_option maxRecDepth 20000 in
theorem gX12_first_X12_isBody : GoodIn wsX12_first (wsV RX12 193 RX12 yX12_isBody wsX12_isBody) := goodIn_app (goodIn_of _ (by decide +kernel)) ggX12_first_X12_isBody
theorem dX12_first_2 : decode cX12_first 2 = .ok (.invokevirtual 193, 3) := by decide +kernel
theorem dX12_first_5 : decode cX12_first 5 = .ok (.ifCond .ne 6, 3) := by decide +kernel
theorem dX12_first_8 : decode cX12_first 8 = .ok (.bipush (-2), 2) := by decide +kernel
theorem dX12_first_10 : decode cX12_first 10 = .ok (.ireturn, 1) := by decide +kernel
theorem dX12_story_0 : decode cX12_story 0 = .ok (.aload_n 0, 1) := by decide +kernel
theorem dX12_story_1 : decode cX12_story 1 = .ok (.iload_n 1, 1) := by decide +kernel
set_option maxRecDepth 20000 in
theorem ggX12_story_X12_isBody : GoodIn wsX12_story wsX12_isBody := goodIn_r _ [11, 12, 19, 20, 21, 22, 23, 24, 25, 26, 27, 28, 29, 30, 31, 32, 33, 34, 35, 36, 37, 38, 39, 40, 41, 42, 43, 44, 45, 46, 47, 48, 49, 50, 51, 52, 53, 54, 55, 56, 57, 58, 59, 60, 61, 62, 63, 64, 65, 66, 67, 68, 69, 70, 71, 72, 73, 74, 75, 76, 77, 78, 79, 80, 81, 82, 83, 84, 85, 86, 87, 88, 89, 90, 91, 92, 93, 94, 95, 96, 97] (by decide +kernel) (by decide +kernel)
set_option maxRecDepth 20000 in
theorem gX12_story_X12_isBody : GoodIn wsX12_story (wsV RX12 193 RX12 yX12_isBody wsX12_isBody) := goodIn_app (goodIn_of _ (by decide +kernel)) ggX12_story_X12_isBody
theorem dX12_story_2 : decode cX12_story 2 = .ok (.invokevirtual 193, 3) := by decide +kernel
theorem dX12_story_5 : decode cX12_story 5 = .ok (.ifCond .eq 27, 3) := by decide +kernel
theorem dX12_story_32 : decode cX12_story 32 = .ok (.bipush (-2), 2) := by decide +kernel
theorem dX12_story_34 : decode cX12_story 34 = .ok (.ireturn, 1) := by decide +kernel
theorem dX12_flown_0 : decode cX12_flown 0 = .ok (.aload_n 0, 1) := by decide +kernel
theorem dX12_flown_1 : decode cX12_flown 1 = .ok (.iload_n 1, 1) := by decide +kernel
set_option maxRecDepth 20000 in
theorem ggX12_flown_X12_isSeeker : GoodIn wsX12_flown wsX12_isSeeker := goodIn_r _ [10, 11, 12, 13, 14, 9, 15, 16, 25, 26, 27, 28, 29, 30, 31, 32, 33, 34, 35, 36, 37, 38, 39, 40, 41, 42, 43, 44, 45, 46, 47, 48, 49, 50, 51, 52, 53, 54, 55, 56, 57, 58, 59, 60, 61, 62, 63, 64, 65, 66, 67, 68, 69, 70, 71, 72, 73, 74, 75, 76, 77, 78, 79, 80, 81, 82, 83, 84, 85, 86, 87, 88, 89, 90, 91, 92, 93, 94, 95, 96, 97, 98, 99, 100, 101, 102, 103] (by decide +kernel) (by decide +kernel)
set_option maxRecDepth 20000 in
theorem gX12_flown_X12_isSeeker : GoodIn wsX12_flown (wsV RX12 275 RX12 yX12_isSeeker wsX12_isSeeker) := goodIn_app (goodIn_of _ (by decide +kernel)) ggX12_flown_X12_isSeeker
theorem dX12_flown_2 : decode cX12_flown 2 = .ok (.invokevirtual 275, 3) := by decide +kernel
theorem dX12_flown_5 : decode cX12_flown 5 = .ok (.ifCond .eq 23, 3) := by decide +kernel
theorem dX12_flown_28 : decode cX12_flown 28 = .ok (.bipush (-2), 2) := by decide +kernel
theorem dX12_flown_30 : decode cX12_flown 30 = .ok (.ireturn, 1) := by decide +kernel
theorem dX12_canHear_0 : decode cX12_canHear 0 = .ok (.aload_n 0, 1) := by decide +kernel
theorem dX12_canHear_1 : decode cX12_canHear 1 = .ok (.iload_n 1, 1) := by decide +kernel
set_option maxRecDepth 20000 in
theorem ggX12_canHear_X12_isCall : GoodIn wsX12_canHear wsX12_isCall := goodIn_r _ [13, 14, 49, 50, 51, 52, 53, 54, 55, 56, 57, 58, 59, 60, 61, 62, 63, 64, 65, 66, 67, 68, 69, 70, 71, 72, 73, 74, 75, 76, 77, 78, 79, 80, 81, 82, 83, 84, 85, 86, 87, 88, 89, 90, 91, 92, 93, 94, 95, 96, 97, 98, 99, 100, 101, 102, 103, 104, 105, 106, 107, 108, 109, 110, 111, 112, 113, 114, 115, 116, 117, 118, 119, 120, 121, 122, 123, 124, 125, 126, 127] (by decide +kernel) (by decide +kernel)
set_option maxRecDepth 20000 in
theorem gX12_canHear_X12_isCall : GoodIn wsX12_canHear (wsV RX12 255 RX12 yX12_isCall wsX12_isCall) := goodIn_app (goodIn_of _ (by decide +kernel)) ggX12_canHear_X12_isCall
theorem dX12_canHear_2 : decode cX12_canHear 2 = .ok (.invokevirtual 255, 3) := by decide +kernel
theorem dX12_canHear_5 : decode cX12_canHear 5 = .ok (.ifCond .eq 15, 3) := by decide +kernel
theorem dX12_canHear_20 : decode cX12_canHear 20 = .ok (.bipush (-2), 2) := by decide +kernel
theorem dX12_canHear_22 : decode cX12_canHear 22 = .ok (.ireturn, 1) := by decide +kernel
theorem dX12_word_0 : decode cX12_word 0 = .ok (.aload_n 0, 1) := by decide +kernel
theorem dX12_word_1 : decode cX12_word 1 = .ok (.iload_n 1, 1) := by decide +kernel
set_option maxRecDepth 20000 in
theorem ggX12_word_X12_isCall : GoodIn wsX12_word wsX12_isCall := goodIn_r _ [9, 10, 18, 19, 20, 21, 22, 23, 24, 25, 26, 27, 28, 29, 30, 31, 32, 33, 34, 35, 36, 37, 38, 39, 40, 41, 42, 43, 44, 45, 46, 47, 48, 49, 50, 51, 52, 53, 54, 55, 56, 57, 58, 59, 60, 61, 62, 63, 64, 65, 66, 67, 68, 69, 70, 71, 72, 73, 74, 75, 76, 77, 78, 79, 80, 81, 82, 83, 84, 85, 86, 87, 88, 89, 90, 91, 92, 93, 94, 95, 96] (by decide +kernel) (by decide +kernel)
set_option maxRecDepth 20000 in
theorem gX12_word_X12_isCall : GoodIn wsX12_word (wsV RX12 255 RX12 yX12_isCall wsX12_isCall) := goodIn_app (goodIn_of _ (by decide +kernel)) ggX12_word_X12_isCall
theorem dX12_word_2 : decode cX12_word 2 = .ok (.invokevirtual 255, 3) := by decide +kernel
theorem dX12_word_5 : decode cX12_word 5 = .ok (.ifCond .eq 13, 3) := by decide +kernel
theorem dX12_word_18 : decode cX12_word 18 = .ok (.bipush (-3), 2) := by decide +kernel
theorem dX12_word_20 : decode cX12_word 20 = .ok (.ireturn, 1) := by decide +kernel
theorem dX12_isTrue_0 : decode cX12_isTrue 0 = .ok (.iload_n 1, 1) := by decide +kernel
theorem dX12_isTrue_1 : decode cX12_isTrue 1 = .ok (.ifCond .lt 11, 3) := by decide +kernel
theorem dX12_isTrue_12 : decode cX12_isTrue 12 = .ok (.bipush (-2), 2) := by decide +kernel
theorem dX12_isTrue_14 : decode cX12_isTrue 14 = .ok (.ireturn, 1) := by decide +kernel
theorem dX12_isTrue_4 : decode cX12_isTrue 4 = .ok (.iload_n 1, 1) := by decide +kernel
theorem dX12_isTrue_5 : decode cX12_isTrue 5 = .ok (.aload_n 0, 1) := by decide +kernel
theorem dX12_isTrue_6 : decode cX12_isTrue 6 = .ok (.getfield 263, 3) := by decide +kernel
theorem dX12_isTrue_9 : decode cX12_isTrue 9 = .ok (.if_icmp .lt 6, 3) := by decide +kernel
theorem dX12_says_0 : decode cX12_says 0 = .ok (.iload_n 1, 1) := by decide +kernel
theorem dX12_says_1 : decode cX12_says 1 = .ok (.ifCond .ne 22, 3) := by decide +kernel
theorem dX12_says_23 : decode cX12_says 23 = .ok (.iload_n 1, 1) := by decide +kernel
theorem dX12_says_24 : decode cX12_says 24 = .ok (.iconst 1, 1) := by decide +kernel
theorem dX12_says_25 : decode cX12_says 25 = .ok (.if_icmp .ne 29, 3) := by decide +kernel
theorem dX12_says_54 : decode cX12_says 54 = .ok (.ldc2_w 236, 3) := by decide +kernel
theorem dX12_says_57 : decode cX12_says 57 = .ok (.lreturn, 1) := by decide +kernel
theorem dX12_says_28 : decode cX12_says 28 = .ok (.aload_n 0, 1) := by decide +kernel
theorem dX12_says_29 : decode cX12_says 29 = .ok (.iload_n 2, 1) := by decide +kernel
set_option maxRecDepth 20000 in
theorem ggX12_says_X12_isSeeker : GoodIn wsX12_says wsX12_isSeeker := goodIn_r _ [142, 143, 144, 145, 146, 6, 147, 148, 183, 184, 185, 186, 187, 188, 189, 190, 191, 192, 193, 194, 195, 196, 197, 198, 199, 200, 201, 202, 203, 204, 205, 206, 207, 208, 209, 210, 211, 212, 213, 214, 215, 216, 217, 218, 219, 220, 221, 222, 223, 224, 225, 226, 227, 228, 229, 230, 231, 232, 233, 234, 235, 236, 237, 238, 239, 240, 241, 242, 243, 244, 245, 246, 247, 248, 249, 250, 251, 252, 253, 254, 255, 256, 257, 258, 259, 260, 261] (by decide +kernel) (by decide +kernel)
set_option maxRecDepth 20000 in
theorem gX12_says_X12_isSeeker : GoodIn wsX12_says (wsV RX12 275 RX12 yX12_isSeeker wsX12_isSeeker) := goodIn_app (goodIn_of _ (by decide +kernel)) ggX12_says_X12_isSeeker
theorem dX12_says_30 : decode cX12_says 30 = .ok (.invokevirtual 275, 3) := by decide +kernel
theorem dX12_says_33 : decode cX12_says 33 = .ok (.ifCond .eq 21, 3) := by decide +kernel
theorem dX12_says_4 : decode cX12_says 4 = .ok (.iload_n 2, 1) := by decide +kernel
theorem dX12_says_5 : decode cX12_says 5 = .ok (.ifCond .lt 18, 3) := by decide +kernel
theorem dX12_says_8 : decode cX12_says 8 = .ok (.iload_n 2, 1) := by decide +kernel
theorem dX12_says_9 : decode cX12_says 9 = .ok (.aload_n 0, 1) := by decide +kernel
theorem dX12_says_10 : decode cX12_says 10 = .ok (.getfield 320, 3) := by decide +kernel
theorem dX12_says_13 : decode cX12_says 13 = .ok (.if_icmp .ge 10, 3) := by decide +kernel
theorem dX12_unfit_0 : decode cX12_unfit 0 = .ok (.iconst 0, 1) := by decide +kernel
theorem dX12_unfit_1 : decode cX12_unfit 1 = .ok (.istore_n 1, 1) := by decide +kernel
theorem dX12_unfit_2 : decode cX12_unfit 2 = .ok (.iconst 0, 1) := by decide +kernel
theorem dX12_unfit_3 : decode cX12_unfit 3 = .ok (.istore_n 2, 1) := by decide +kernel
theorem dX12_unfit_4 : decode cX12_unfit 4 = .ok (.iload_n 2, 1) := by decide +kernel
theorem dX12_unfit_5 : decode cX12_unfit 5 = .ok (.aload_n 0, 1) := by decide +kernel
theorem dX12_unfit_6 : decode cX12_unfit 6 = .ok (.getfield 440, 3) := by decide +kernel
theorem dX12_unfit_9 : decode cX12_unfit 9 = .ok (.if_icmp .ge 55, 3) := by decide +kernel
theorem dX12_unfit_64 : decode cX12_unfit 64 = .ok (.iload_n 1, 1) := by decide +kernel
theorem dX12_unfit_65 : decode cX12_unfit 65 = .ok (.ireturn, 1) := by decide +kernel
theorem dX12_clash_0 : decode cX12_clash 0 = .ok (.aload_n 0, 1) := by decide +kernel
theorem dX12_clash_1 : decode cX12_clash 1 = .ok (.iload_n 1, 1) := by decide +kernel
set_option maxRecDepth 20000 in
theorem ggX12_clash_X12_isStory : GoodIn wsX12_clash wsX12_isStory := goodIn_r _ [8, 9, 22, 23, 24, 25, 26, 27, 28, 29, 30, 31, 32, 33, 34, 35, 36, 37, 38, 39, 40, 41, 42, 43, 44, 45, 46, 47, 48, 49, 50, 51, 52, 53, 54, 55, 56, 57, 58, 59, 60, 61, 62, 63, 64, 65, 66, 67, 68, 69, 70, 71, 72, 73, 74, 75, 76, 77, 78, 79, 80, 81, 82, 83, 84, 85, 86, 87, 88, 89, 90, 91, 92, 93, 94, 95, 96, 97, 98, 99, 100] (by decide +kernel) (by decide +kernel)
set_option maxRecDepth 20000 in
theorem gX12_clash_X12_isStory : GoodIn wsX12_clash (wsV RX12 443 RX12 yX12_isStory wsX12_isStory) := goodIn_app (goodIn_of _ (by decide +kernel)) ggX12_clash_X12_isStory
theorem dX12_clash_2 : decode cX12_clash 2 = .ok (.invokevirtual 443, 3) := by decide +kernel
theorem dX12_clash_5 : decode cX12_clash 5 = .ok (.ifCond .eq 31, 3) := by decide +kernel
theorem dX12_clash_36 : decode cX12_clash 36 = .ok (.bipush (-2), 2) := by decide +kernel
theorem dX12_clash_38 : decode cX12_clash 38 = .ok (.ireturn, 1) := by decide +kernel
theorem dX12_fixes_0 : decode cX12_fixes 0 = .ok (.aload_n 0, 1) := by decide +kernel
theorem dX12_fixes_1 : decode cX12_fixes 1 = .ok (.iload_n 1, 1) := by decide +kernel
set_option maxRecDepth 20000 in
theorem ggX12_fixes_X12_isBody : GoodIn wsX12_fixes wsX12_isBody := goodIn_r _ [10, 11, 35, 36, 37, 38, 39, 40, 41, 42, 43, 44, 45, 46, 47, 48, 49, 50, 51, 52, 53, 54, 55, 56, 57, 58, 59, 60, 61, 62, 63, 64, 65, 66, 67, 68, 69, 70, 71, 72, 73, 74, 75, 76, 77, 78, 79, 80, 81, 82, 83, 84, 85, 86, 87, 88, 89, 90, 91, 92, 93, 94, 95, 96, 97, 98, 99, 100, 101, 102, 103, 104, 105, 106, 107, 108, 109, 110, 111, 112, 113] (by decide +kernel) (by decide +kernel)
set_option maxRecDepth 20000 in
theorem gX12_fixes_X12_isBody : GoodIn wsX12_fixes (wsV RX12 193 RX12 yX12_isBody wsX12_isBody) := goodIn_app (goodIn_of _ (by decide +kernel)) ggX12_fixes_X12_isBody
theorem dX12_fixes_2 : decode cX12_fixes 2 = .ok (.invokevirtual 193, 3) := by decide +kernel
theorem dX12_fixes_5 : decode cX12_fixes 5 = .ok (.ifCond .eq 30, 3) := by decide +kernel
theorem dX12_fixes_35 : decode cX12_fixes 35 = .ok (.bipush (-2), 2) := by decide +kernel
theorem dX12_fixes_37 : decode cX12_fixes 37 = .ok (.ireturn, 1) := by decide +kernel
theorem dX12_fix_0 : decode cX12_fix 0 = .ok (.aload_n 0, 1) := by decide +kernel
theorem dX12_fix_1 : decode cX12_fix 1 = .ok (.iload_n 1, 1) := by decide +kernel
set_option maxRecDepth 20000 in
theorem ggX12_fix_X12_isBody : GoodIn wsX12_fix wsX12_isBody := goodIn_r _ [7, 8, 21, 22, 23, 24, 25, 26, 27, 28, 29, 30, 31, 32, 33, 34, 35, 36, 37, 38, 39, 40, 41, 42, 43, 44, 45, 46, 47, 48, 49, 50, 51, 52, 53, 54, 55, 56, 57, 58, 59, 60, 61, 62, 63, 64, 65, 66, 67, 68, 69, 70, 71, 72, 73, 74, 75, 76, 77, 78, 79, 80, 81, 82, 83, 84, 85, 86, 87, 88, 89, 90, 91, 92, 93, 94, 95, 96, 97, 98, 99] (by decide +kernel) (by decide +kernel)
set_option maxRecDepth 20000 in
theorem gX12_fix_X12_isBody : GoodIn wsX12_fix (wsV RX12 193 RX12 yX12_isBody wsX12_isBody) := goodIn_app (goodIn_of _ (by decide +kernel)) ggX12_fix_X12_isBody
theorem dX12_fix_2 : decode cX12_fix 2 = .ok (.invokevirtual 193, 3) := by decide +kernel
theorem dX12_fix_5 : decode cX12_fix 5 = .ok (.ifCond .eq 30, 3) := by decide +kernel
theorem dX12_fix_35 : decode cX12_fix 35 = .ok (.bipush (-2), 2) := by decide +kernel
theorem dX12_fix_37 : decode cX12_fix 37 = .ok (.ireturn, 1) := by decide +kernel
theorem dX12_call_0 : decode cX12_call 0 = .ok (.aload_n 0, 1) := by decide +kernel
theorem dX12_call_1 : decode cX12_call 1 = .ok (.iload_n 1, 1) := by decide +kernel
set_option maxRecDepth 20000 in
theorem ggX12_call_X12_isBody : GoodIn wsX12_call wsX12_isBody := goodIn_r _ [11, 12, 19, 20, 21, 22, 23, 24, 25, 26, 27, 28, 29, 30, 31, 32, 33, 34, 35, 36, 37, 38, 39, 40, 41, 42, 43, 44, 45, 46, 47, 48, 49, 50, 51, 52, 53, 54, 55, 56, 57, 58, 59, 60, 61, 62, 63, 64, 65, 66, 67, 68, 69, 70, 71, 72, 73, 74, 75, 76, 77, 78, 79, 80, 81, 82, 83, 84, 85, 86, 87, 88, 89, 90, 91, 92, 93, 94, 95, 96, 97] (by decide +kernel) (by decide +kernel)
set_option maxRecDepth 20000 in
theorem gX12_call_X12_isBody : GoodIn wsX12_call (wsV RX12 193 RX12 yX12_isBody wsX12_isBody) := goodIn_app (goodIn_of _ (by decide +kernel)) ggX12_call_X12_isBody
theorem dX12_call_2 : decode cX12_call 2 = .ok (.invokevirtual 193, 3) := by decide +kernel
theorem dX12_call_5 : decode cX12_call 5 = .ok (.ifCond .eq 10, 3) := by decide +kernel
theorem dX12_call_15 : decode cX12_call 15 = .ok (.bipush (-2), 2) := by decide +kernel
theorem dX12_call_17 : decode cX12_call 17 = .ok (.ireturn, 1) := by decide +kernel
theorem dX12_part_0 : decode cX12_part 0 = .ok (.iload_n 1, 1) := by decide +kernel
theorem dX12_part_1 : decode cX12_part 1 = .ok (.ifCond .lt 30, 3) := by decide +kernel
theorem dX12_part_31 : decode cX12_part 31 = .ok (.bipush (-2), 2) := by decide +kernel
theorem dX12_part_33 : decode cX12_part 33 = .ok (.ireturn, 1) := by decide +kernel
theorem dX12_part_4 : decode cX12_part 4 = .ok (.iload_n 1, 1) := by decide +kernel
theorem dX12_part_5 : decode cX12_part 5 = .ok (.aload_n 0, 1) := by decide +kernel
theorem dX12_part_6 : decode cX12_part 6 = .ok (.getfield 246, 3) := by decide +kernel
theorem dX12_part_9 : decode cX12_part 9 = .ok (.if_icmp .ge 22, 3) := by decide +kernel
theorem dX12_taken_0 : decode cX12_taken 0 = .ok (.iload_n 2, 1) := by decide +kernel
theorem dX12_taken_1 : decode cX12_taken 1 = .ok (.iconst 0, 1) := by decide +kernel
theorem dX12_taken_2 : decode cX12_taken 2 = .ok (.iconst 5, 1) := by decide +kernel
set_option maxRecDepth 20000 in
theorem ggX12_taken_X12_within : GoodIn wsX12_taken wsX12_within := goodIn_r _ [6] (by decide +kernel) (by decide +kernel)
set_option maxRecDepth 20000 in
theorem gX12_taken_X12_within : GoodIn wsX12_taken (va_wsS RX12 186 yX12_within wsX12_within) := goodIn_app (goodIn_of _ (by decide +kernel)) ggX12_taken_X12_within
theorem dX12_taken_3 : decode cX12_taken 3 = .ok (.invokestatic 186, 3) := by decide +kernel
theorem dX12_taken_6 : decode cX12_taken 6 = .ok (.ifCond .ne 6, 3) := by decide +kernel
theorem dX12_taken_12 : decode cX12_taken 12 = .ok (.aload_n 0, 1) := by decide +kernel
theorem dX12_taken_13 : decode cX12_taken 13 = .ok (.iload_n 1, 1) := by decide +kernel
set_option maxRecDepth 20000 in
theorem ggX12_taken_X12_isBody : GoodIn wsX12_taken wsX12_isBody := goodIn_r _ [10, 11, 15, 16, 17, 18, 19, 20, 21, 22, 23, 24, 25, 26, 27, 28, 29, 30, 31, 32, 33, 34, 35, 36, 37, 38, 39, 40, 41, 42, 43, 44, 45, 46, 47, 48, 49, 50, 51, 52, 53, 54, 55, 56, 57, 58, 59, 60, 61, 62, 63, 64, 65, 66, 67, 68, 69, 70, 71, 72, 73, 74, 75, 76, 77, 78, 79, 80, 81, 82, 83, 84, 85, 86, 87, 88, 89, 90, 91, 92, 93] (by decide +kernel) (by decide +kernel)
set_option maxRecDepth 20000 in
theorem gX12_taken_X12_isBody : GoodIn wsX12_taken (wsV RX12 193 RX12 yX12_isBody wsX12_isBody) := goodIn_app (goodIn_of _ (by decide +kernel)) ggX12_taken_X12_isBody
theorem dX12_taken_14 : decode cX12_taken 14 = .ok (.invokevirtual 193, 3) := by decide +kernel
theorem dX12_taken_17 : decode cX12_taken 17 = .ok (.ifCond .ne 6, 3) := by decide +kernel
theorem dX12_taken_20 : decode cX12_taken 20 = .ok (.bipush (-11), 2) := by decide +kernel
theorem dX12_taken_22 : decode cX12_taken 22 = .ok (.ireturn, 1) := by decide +kernel
theorem dX12_taken_9 : decode cX12_taken 9 = .ok (.bipush (-2), 2) := by decide +kernel
theorem dX12_taken_11 : decode cX12_taken 11 = .ok (.ireturn, 1) := by decide +kernel
theorem dX12_pass_0 : decode cX12_pass 0 = .ok (.iload_n 1, 1) := by decide +kernel
theorem dX12_pass_1 : decode cX12_pass 1 = .ok (.iconst 1, 1) := by decide +kernel
theorem dX12_pass_2 : decode cX12_pass 2 = .ok (.bipush 48, 2) := by decide +kernel
set_option maxRecDepth 20000 in
theorem ggX12_pass_X12_within : GoodIn wsX12_pass wsX12_within := goodIn_r _ [7] (by decide +kernel) (by decide +kernel)
set_option maxRecDepth 20000 in
theorem gX12_pass_X12_within : GoodIn wsX12_pass (va_wsS RX12 186 yX12_within wsX12_within) := goodIn_app (goodIn_of _ (by decide +kernel)) ggX12_pass_X12_within
theorem dX12_pass_4 : decode cX12_pass 4 = .ok (.invokestatic 186, 3) := by decide +kernel
theorem dX12_pass_7 : decode cX12_pass 7 = .ok (.ifCond .ne 6, 3) := by decide +kernel
theorem dX12_pass_13 : decode cX12_pass 13 = .ok (.aload_n 0, 1) := by decide +kernel
theorem dX12_pass_14 : decode cX12_pass 14 = .ok (.getfield 201, 3) := by decide +kernel
theorem dX12_pass_17 : decode cX12_pass 17 = .ok (.iload_n 1, 1) := by decide +kernel
theorem dX12_pass_18 : decode cX12_pass 18 = .ok (.iadd, 1) := by decide +kernel
theorem dX12_pass_19 : decode cX12_pass 19 = .ok (.sipush 239, 3) := by decide +kernel
theorem dX12_pass_22 : decode cX12_pass 22 = .ok (.if_icmp .le 6, 3) := by decide +kernel
theorem dX12_pass_28 : decode cX12_pass 28 = .ok (.aload_n 0, 1) := by decide +kernel
theorem dX12_pass_29 : decode cX12_pass 29 = .ok (.dup, 1) := by decide +kernel
theorem dX12_pass_30 : decode cX12_pass 30 = .ok (.getfield 201, 3) := by decide +kernel
theorem dX12_pass_33 : decode cX12_pass 33 = .ok (.iload_n 1, 1) := by decide +kernel
theorem dX12_pass_34 : decode cX12_pass 34 = .ok (.iadd, 1) := by decide +kernel
theorem dX12_pass_35 : decode cX12_pass 35 = .ok (.putfield 201, 3) := by decide +kernel
theorem dX12_pass_38 : decode cX12_pass 38 = .ok (.iconst 0, 1) := by decide +kernel
theorem dX12_pass_39 : decode cX12_pass 39 = .ok (.istore_n 2, 1) := by decide +kernel
theorem dX12_pass_40 : decode cX12_pass 40 = .ok (.iload_n 2, 1) := by decide +kernel
theorem dX12_pass_41 : decode cX12_pass 41 = .ok (.aload_n 0, 1) := by decide +kernel
theorem dX12_pass_42 : decode cX12_pass 42 = .ok (.getfield 190, 3) := by decide +kernel
theorem dX12_pass_45 : decode cX12_pass 45 = .ok (.if_icmp .ge 39, 3) := by decide +kernel
theorem dX12_pass_84 : decode cX12_pass 84 = .ok (.aload_n 0, 1) := by decide +kernel
theorem dX12_pass_85 : decode cX12_pass 85 = .ok (.getfield 201, 3) := by decide +kernel
theorem dX12_pass_88 : decode cX12_pass 88 = .ok (.ireturn, 1) := by decide +kernel
theorem dX12_pass_10 : decode cX12_pass 10 = .ok (.bipush (-2), 2) := by decide +kernel
theorem dX12_pass_12 : decode cX12_pass 12 = .ok (.ireturn, 1) := by decide +kernel
theorem dX12_stays_0 : decode cX12_stays 0 = .ok (.iload_n 1, 1) := by decide +kernel
theorem dX12_stays_1 : decode cX12_stays 1 = .ok (.iconst 0, 1) := by decide +kernel
theorem dX12_stays_2 : decode cX12_stays 2 = .ok (.bipush 9, 2) := by decide +kernel
set_option maxRecDepth 20000 in
theorem ggX12_stays_X12_within : GoodIn wsX12_stays wsX12_within := goodIn_r _ [5] (by decide +kernel) (by decide +kernel)
set_option maxRecDepth 20000 in
theorem gX12_stays_X12_within : GoodIn wsX12_stays (va_wsS RX12 186 yX12_within wsX12_within) := goodIn_app (goodIn_of _ (by decide +kernel)) ggX12_stays_X12_within
theorem dX12_stays_4 : decode cX12_stays 4 = .ok (.invokestatic 186, 3) := by decide +kernel
theorem dX12_stays_7 : decode cX12_stays 7 = .ok (.ifCond .ne 6, 3) := by decide +kernel
theorem dX12_stays_13 : decode cX12_stays 13 = .ok (.aload_n 0, 1) := by decide +kernel
theorem dX12_stays_14 : decode cX12_stays 14 = .ok (.getfield 307, 3) := by decide +kernel
theorem dX12_stays_17 : decode cX12_stays 17 = .ok (.istore_n 2, 1) := by decide +kernel
theorem dX12_stays_18 : decode cX12_stays 18 = .ok (.aload_n 0, 1) := by decide +kernel
theorem dX12_stays_19 : decode cX12_stays 19 = .ok (.iload_n 1, 1) := by decide +kernel
theorem dX12_stays_20 : decode cX12_stays 20 = .ok (.putfield 307, 3) := by decide +kernel
theorem dX12_stays_23 : decode cX12_stays 23 = .ok (.iload_n 2, 1) := by decide +kernel
theorem dX12_stays_24 : decode cX12_stays 24 = .ok (.ireturn, 1) := by decide +kernel
theorem dX12_stays_10 : decode cX12_stays 10 = .ok (.bipush (-2), 2) := by decide +kernel
theorem dX12_stays_12 : decode cX12_stays 12 = .ok (.ireturn, 1) := by decide +kernel
theorem dX12_wind_0 : decode cX12_wind 0 = .ok (.iload_n 1, 1) := by decide +kernel
theorem dX12_wind_1 : decode cX12_wind 1 = .ok (.iload_n 2, 1) := by decide +kernel
set_option maxRecDepth 20000 in
theorem ggX12_wind_X12_areHours : GoodIn wsX12_wind wsX12_areHours := goodIn_r _ [8, 9, 10, 7, 11] (by decide +kernel) (by decide +kernel)
set_option maxRecDepth 20000 in
theorem gX12_wind_X12_areHours : GoodIn wsX12_wind (va_wsS RX12 207 yX12_areHours wsX12_areHours) := goodIn_app (goodIn_of _ (by decide +kernel)) ggX12_wind_X12_areHours
theorem dX12_wind_2 : decode cX12_wind 2 = .ok (.invokestatic 207, 3) := by decide +kernel
theorem dX12_wind_5 : decode cX12_wind 5 = .ok (.ifCond .eq 48, 3) := by decide +kernel
theorem dX12_wind_8 : decode cX12_wind 8 = .ok (.iload_n 3, 1) := by decide +kernel
theorem dX12_wind_9 : decode cX12_wind 9 = .ok (.iconst 0, 1) := by decide +kernel
theorem dX12_wind_10 : decode cX12_wind 10 = .ok (.sipush 4444, 3) := by decide +kernel
set_option maxRecDepth 20000 in
theorem ggX12_wind_X12_within : GoodIn wsX12_wind wsX12_within := goodIn_r _ [11] (by decide +kernel) (by decide +kernel)
set_option maxRecDepth 20000 in
theorem gX12_wind_X12_within : GoodIn wsX12_wind (va_wsS RX12 186 yX12_within wsX12_within) := goodIn_app (goodIn_of _ (by decide +kernel)) ggX12_wind_X12_within
theorem dX12_wind_13 : decode cX12_wind 13 = .ok (.invokestatic 186, 3) := by decide +kernel
theorem dX12_wind_16 : decode cX12_wind 16 = .ok (.ifCond .eq 37, 3) := by decide +kernel
theorem dX12_wind_19 : decode cX12_wind 19 = .ok (.iload_n 3, 1) := by decide +kernel
theorem dX12_wind_20 : decode cX12_wind 20 = .ok (.bipush 100, 2) := by decide +kernel
theorem dX12_wind_22 : decode cX12_wind 22 = .ok (.idiv, 1) := by decide +kernel
theorem dX12_wind_23 : decode cX12_wind 23 = .ok (.bipush 10, 2) := by decide +kernel
theorem dX12_wind_25 : decode cX12_wind 25 = .ok (.irem, 1) := by decide +kernel
theorem dX12_wind_26 : decode cX12_wind 26 = .ok (.iconst 4, 1) := by decide +kernel
theorem dX12_wind_27 : decode cX12_wind 27 = .ok (.if_icmp .gt 26, 3) := by decide +kernel
theorem dX12_wind_53 : decode cX12_wind 53 = .ok (.iconst 0, 1) := by decide +kernel
theorem dX12_wind_54 : decode cX12_wind 54 = .ok (.istore 4, 2) := by decide +kernel
theorem dX12_wind_56 : decode cX12_wind 56 = .ok (.iload 4, 2) := by decide +kernel
theorem dX12_wind_58 : decode cX12_wind 58 = .ok (.ifCond .eq 32, 3) := by decide +kernel
theorem dX12_wind_90 : decode cX12_wind 90 = .ok (.bipush (-2), 2) := by decide +kernel
theorem dX12_wind_92 : decode cX12_wind 92 = .ok (.ireturn, 1) := by decide +kernel
theorem dX12_wind_30 : decode cX12_wind 30 = .ok (.iload_n 3, 1) := by decide +kernel
theorem dX12_wind_31 : decode cX12_wind 31 = .ok (.bipush 10, 2) := by decide +kernel
theorem dX12_wind_33 : decode cX12_wind 33 = .ok (.idiv, 1) := by decide +kernel
theorem dX12_wind_34 : decode cX12_wind 34 = .ok (.bipush 10, 2) := by decide +kernel
theorem dX12_wind_36 : decode cX12_wind 36 = .ok (.irem, 1) := by decide +kernel
theorem dX12_wind_37 : decode cX12_wind 37 = .ok (.iconst 4, 1) := by decide +kernel
theorem dX12_wind_38 : decode cX12_wind 38 = .ok (.if_icmp .gt 15, 3) := by decide +kernel
theorem dX12_wind_41 : decode cX12_wind 41 = .ok (.iload_n 3, 1) := by decide +kernel
theorem dX12_wind_42 : decode cX12_wind 42 = .ok (.bipush 10, 2) := by decide +kernel
theorem dX12_wind_44 : decode cX12_wind 44 = .ok (.irem, 1) := by decide +kernel
theorem dX12_wind_45 : decode cX12_wind 45 = .ok (.iconst 4, 1) := by decide +kernel
theorem dX12_wind_46 : decode cX12_wind 46 = .ok (.if_icmp .gt 7, 3) := by decide +kernel
theorem dX12_wind_49 : decode cX12_wind 49 = .ok (.iconst 1, 1) := by decide +kernel
theorem dX12_wind_50 : decode cX12_wind 50 = .ok (.goto 4, 3) := by decide +kernel
theorem dX12_wind_61 : decode cX12_wind 61 = .ok (.iload_n 3, 1) := by decide +kernel
theorem dX12_wind_62 : decode cX12_wind 62 = .ok (.sipush 1000, 3) := by decide +kernel
theorem dX12_wind_65 : decode cX12_wind 65 = .ok (.idiv, 1) := by decide +kernel
theorem dX12_wind_66 : decode cX12_wind 66 = .ok (.iload_n 3, 1) := by decide +kernel
theorem dX12_wind_67 : decode cX12_wind 67 = .ok (.bipush 100, 2) := by decide +kernel
theorem dX12_wind_69 : decode cX12_wind 69 = .ok (.idiv, 1) := by decide +kernel
theorem dX12_wind_70 : decode cX12_wind 70 = .ok (.bipush 10, 2) := by decide +kernel
theorem dX12_wind_72 : decode cX12_wind 72 = .ok (.irem, 1) := by decide +kernel
theorem dX12_wind_73 : decode cX12_wind 73 = .ok (.if_icmp .gt 17, 3) := by decide +kernel
theorem dX12_wind_76 : decode cX12_wind 76 = .ok (.iload_n 3, 1) := by decide +kernel
theorem dX12_wind_77 : decode cX12_wind 77 = .ok (.bipush 10, 2) := by decide +kernel
theorem dX12_wind_79 : decode cX12_wind 79 = .ok (.idiv, 1) := by decide +kernel
theorem dX12_wind_80 : decode cX12_wind 80 = .ok (.bipush 10, 2) := by decide +kernel
theorem dX12_wind_82 : decode cX12_wind 82 = .ok (.irem, 1) := by decide +kernel
theorem dX12_wind_83 : decode cX12_wind 83 = .ok (.iload_n 3, 1) := by decide +kernel
theorem dX12_wind_84 : decode cX12_wind 84 = .ok (.bipush 10, 2) := by decide +kernel
theorem dX12_wind_86 : decode cX12_wind 86 = .ok (.irem, 1) := by decide +kernel
theorem dX12_wind_87 : decode cX12_wind 87 = .ok (.if_icmp .le 6, 3) := by decide +kernel
theorem dX12_wind_93 : decode cX12_wind 93 = .ok (.aload_n 0, 1) := by decide +kernel
theorem dX12_wind_94 : decode cX12_wind 94 = .ok (.getfield 211, 3) := by decide +kernel
theorem dX12_wind_97 : decode cX12_wind 97 = .ok (.bipush 30, 2) := by decide +kernel
theorem dX12_wind_99 : decode cX12_wind 99 = .ok (.if_icmp .ne 6, 3) := by decide +kernel
theorem dX12_wind_105 : decode cX12_wind 105 = .ok (.aload_n 0, 1) := by decide +kernel
theorem dX12_wind_106 : decode cX12_wind 106 = .ok (.getfield 9, 3) := by decide +kernel
theorem dX12_wind_109 : decode cX12_wind 109 = .ok (.aload_n 0, 1) := by decide +kernel
theorem dX12_wind_110 : decode cX12_wind 110 = .ok (.getfield 211, 3) := by decide +kernel
theorem dX12_wind_113 : decode cX12_wind 113 = .ok (.iload_n 1, 1) := by decide +kernel
theorem dX12_wind_114 : decode cX12_wind 114 = .ok (.iastore, 1) := by decide +kernel
theorem dX12_wind_115 : decode cX12_wind 115 = .ok (.aload_n 0, 1) := by decide +kernel
theorem dX12_wind_116 : decode cX12_wind 116 = .ok (.getfield 13, 3) := by decide +kernel
theorem dX12_wind_119 : decode cX12_wind 119 = .ok (.aload_n 0, 1) := by decide +kernel
theorem dX12_wind_120 : decode cX12_wind 120 = .ok (.getfield 211, 3) := by decide +kernel
theorem dX12_wind_123 : decode cX12_wind 123 = .ok (.iload_n 2, 1) := by decide +kernel
theorem dX12_wind_124 : decode cX12_wind 124 = .ok (.iastore, 1) := by decide +kernel
theorem dX12_wind_125 : decode cX12_wind 125 = .ok (.aload_n 0, 1) := by decide +kernel
theorem dX12_wind_126 : decode cX12_wind 126 = .ok (.getfield 16, 3) := by decide +kernel
theorem dX12_wind_129 : decode cX12_wind 129 = .ok (.aload_n 0, 1) := by decide +kernel
theorem dX12_wind_130 : decode cX12_wind 130 = .ok (.getfield 211, 3) := by decide +kernel
theorem dX12_wind_133 : decode cX12_wind 133 = .ok (.iload_n 3, 1) := by decide +kernel
theorem dX12_wind_134 : decode cX12_wind 134 = .ok (.iastore, 1) := by decide +kernel
theorem dX12_wind_135 : decode cX12_wind 135 = .ok (.aload_n 0, 1) := by decide +kernel
theorem dX12_wind_136 : decode cX12_wind 136 = .ok (.dup, 1) := by decide +kernel
theorem dX12_wind_137 : decode cX12_wind 137 = .ok (.getfield 211, 3) := by decide +kernel
theorem dX12_wind_140 : decode cX12_wind 140 = .ok (.iconst 1, 1) := by decide +kernel
theorem dX12_wind_141 : decode cX12_wind 141 = .ok (.iadd, 1) := by decide +kernel
theorem dX12_wind_142 : decode cX12_wind 142 = .ok (.putfield 211, 3) := by decide +kernel
theorem dX12_wind_145 : decode cX12_wind 145 = .ok (.aload_n 0, 1) := by decide +kernel
theorem dX12_wind_146 : decode cX12_wind 146 = .ok (.getfield 211, 3) := by decide +kernel
theorem dX12_wind_149 : decode cX12_wind 149 = .ok (.ireturn, 1) := by decide +kernel
theorem dX12_fog_0 : decode cX12_fog 0 = .ok (.iload_n 1, 1) := by decide +kernel
theorem dX12_fog_1 : decode cX12_fog 1 = .ok (.iload_n 2, 1) := by decide +kernel
set_option maxRecDepth 20000 in
theorem ggX12_fog_X12_areHours : GoodIn wsX12_fog wsX12_areHours := goodIn_r _ [8, 9, 10, 7, 11] (by decide +kernel) (by decide +kernel)
set_option maxRecDepth 20000 in
theorem gX12_fog_X12_areHours : GoodIn wsX12_fog (va_wsS RX12 207 yX12_areHours wsX12_areHours) := goodIn_app (goodIn_of _ (by decide +kernel)) ggX12_fog_X12_areHours
theorem dX12_fog_2 : decode cX12_fog 2 = .ok (.invokestatic 207, 3) := by decide +kernel
theorem dX12_fog_5 : decode cX12_fog 5 = .ok (.ifCond .eq 13, 3) := by decide +kernel
theorem dX12_fog_8 : decode cX12_fog 8 = .ok (.iload_n 3, 1) := by decide +kernel
theorem dX12_fog_9 : decode cX12_fog 9 = .ok (.iconst 0, 1) := by decide +kernel
theorem dX12_fog_10 : decode cX12_fog 10 = .ok (.bipush 16, 2) := by decide +kernel
set_option maxRecDepth 20000 in
theorem ggX12_fog_X12_within : GoodIn wsX12_fog wsX12_within := goodIn_r _ [11] (by decide +kernel) (by decide +kernel)
set_option maxRecDepth 20000 in
theorem gX12_fog_X12_within : GoodIn wsX12_fog (va_wsS RX12 186 yX12_within wsX12_within) := goodIn_app (goodIn_of _ (by decide +kernel)) ggX12_fog_X12_within
theorem dX12_fog_12 : decode cX12_fog 12 = .ok (.invokestatic 186, 3) := by decide +kernel
theorem dX12_fog_15 : decode cX12_fog 15 = .ok (.ifCond .ne 6, 3) := by decide +kernel
theorem dX12_fog_21 : decode cX12_fog 21 = .ok (.aload_n 0, 1) := by decide +kernel
theorem dX12_fog_22 : decode cX12_fog 22 = .ok (.getfield 214, 3) := by decide +kernel
theorem dX12_fog_25 : decode cX12_fog 25 = .ok (.bipush 30, 2) := by decide +kernel
theorem dX12_fog_27 : decode cX12_fog 27 = .ok (.if_icmp .ne 6, 3) := by decide +kernel
theorem dX12_fog_33 : decode cX12_fog 33 = .ok (.aload_n 0, 1) := by decide +kernel
theorem dX12_fog_34 : decode cX12_fog 34 = .ok (.getfield 19, 3) := by decide +kernel
theorem dX12_fog_37 : decode cX12_fog 37 = .ok (.aload_n 0, 1) := by decide +kernel
theorem dX12_fog_38 : decode cX12_fog 38 = .ok (.getfield 214, 3) := by decide +kernel
theorem dX12_fog_41 : decode cX12_fog 41 = .ok (.iload_n 1, 1) := by decide +kernel
theorem dX12_fog_42 : decode cX12_fog 42 = .ok (.iastore, 1) := by decide +kernel
theorem dX12_fog_43 : decode cX12_fog 43 = .ok (.aload_n 0, 1) := by decide +kernel
theorem dX12_fog_44 : decode cX12_fog 44 = .ok (.getfield 22, 3) := by decide +kernel
theorem dX12_fog_47 : decode cX12_fog 47 = .ok (.aload_n 0, 1) := by decide +kernel
theorem dX12_fog_48 : decode cX12_fog 48 = .ok (.getfield 214, 3) := by decide +kernel
theorem dX12_fog_51 : decode cX12_fog 51 = .ok (.iload_n 2, 1) := by decide +kernel
theorem dX12_fog_52 : decode cX12_fog 52 = .ok (.iastore, 1) := by decide +kernel
theorem dX12_fog_53 : decode cX12_fog 53 = .ok (.aload_n 0, 1) := by decide +kernel
theorem dX12_fog_54 : decode cX12_fog 54 = .ok (.getfield 25, 3) := by decide +kernel
theorem dX12_fog_57 : decode cX12_fog 57 = .ok (.aload_n 0, 1) := by decide +kernel
theorem dX12_fog_58 : decode cX12_fog 58 = .ok (.getfield 214, 3) := by decide +kernel
theorem dX12_fog_61 : decode cX12_fog 61 = .ok (.iload_n 3, 1) := by decide +kernel
theorem dX12_fog_62 : decode cX12_fog 62 = .ok (.iastore, 1) := by decide +kernel
theorem dX12_fog_63 : decode cX12_fog 63 = .ok (.aload_n 0, 1) := by decide +kernel
theorem dX12_fog_64 : decode cX12_fog 64 = .ok (.dup, 1) := by decide +kernel
theorem dX12_fog_65 : decode cX12_fog 65 = .ok (.getfield 214, 3) := by decide +kernel
theorem dX12_fog_68 : decode cX12_fog 68 = .ok (.iconst 1, 1) := by decide +kernel
theorem dX12_fog_69 : decode cX12_fog 69 = .ok (.iadd, 1) := by decide +kernel
theorem dX12_fog_70 : decode cX12_fog 70 = .ok (.putfield 214, 3) := by decide +kernel
theorem dX12_fog_73 : decode cX12_fog 73 = .ok (.aload_n 0, 1) := by decide +kernel
theorem dX12_fog_74 : decode cX12_fog 74 = .ok (.getfield 214, 3) := by decide +kernel
theorem dX12_fog_77 : decode cX12_fog 77 = .ok (.ireturn, 1) := by decide +kernel
theorem dX12_fog_18 : decode cX12_fog 18 = .ok (.bipush (-2), 2) := by decide +kernel
theorem dX12_fog_20 : decode cX12_fog 20 = .ok (.ireturn, 1) := by decide +kernel
theorem dX12_body_0 : decode cX12_body 0 = .ok (.iload_n 1, 1) := by decide +kernel
theorem dX12_body_1 : decode cX12_body 1 = .ok (.iconst 0, 1) := by decide +kernel
theorem dX12_body_2 : decode cX12_body 2 = .ok (.iconst 5, 1) := by decide +kernel
set_option maxRecDepth 20000 in
theorem ggX12_body_X12_within : GoodIn wsX12_body wsX12_within := goodIn_r _ [12] (by decide +kernel) (by decide +kernel)
set_option maxRecDepth 20000 in
theorem gX12_body_X12_within : GoodIn wsX12_body (va_wsS RX12 186 yX12_within wsX12_within) := goodIn_app (goodIn_of _ (by decide +kernel)) ggX12_body_X12_within
theorem dX12_body_3 : decode cX12_body 3 = .ok (.invokestatic 186, 3) := by decide +kernel
theorem dX12_body_6 : decode cX12_body 6 = .ok (.ifCond .eq 44, 3) := by decide +kernel
theorem dX12_body_9 : decode cX12_body 9 = .ok (.iload_n 2, 1) := by decide +kernel
set_option maxRecDepth 20000 in
theorem ggX12_body_X12_isCell : GoodIn wsX12_body wsX12_isCell := goodIn_r _ [15, 9, 10, 11, 12] (by decide +kernel) (by decide +kernel)
set_option maxRecDepth 20000 in
theorem gX12_body_X12_isCell : GoodIn wsX12_body (va_wsS RX12 217 yX12_isCell wsX12_isCell) := goodIn_app (goodIn_of _ (by decide +kernel)) ggX12_body_X12_isCell
theorem dX12_body_10 : decode cX12_body 10 = .ok (.invokestatic 217, 3) := by decide +kernel
theorem dX12_body_13 : decode cX12_body 13 = .ok (.ifCond .eq 37, 3) := by decide +kernel
theorem dX12_body_16 : decode cX12_body 16 = .ok (.iload_n 3, 1) := by decide +kernel
theorem dX12_body_17 : decode cX12_body 17 = .ok (.iconst 0, 1) := by decide +kernel
theorem dX12_body_18 : decode cX12_body 18 = .ok (.bipush 20, 2) := by decide +kernel
theorem dX12_body_20 : decode cX12_body 20 = .ok (.invokestatic 186, 3) := by decide +kernel
theorem dX12_body_23 : decode cX12_body 23 = .ok (.ifCond .eq 27, 3) := by decide +kernel
theorem dX12_body_26 : decode cX12_body 26 = .ok (.iload 4, 2) := by decide +kernel
theorem dX12_body_28 : decode cX12_body 28 = .ok (.iconst 0, 1) := by decide +kernel
theorem dX12_body_29 : decode cX12_body 29 = .ok (.sipush 9999, 3) := by decide +kernel
theorem dX12_body_32 : decode cX12_body 32 = .ok (.invokestatic 186, 3) := by decide +kernel
theorem dX12_body_35 : decode cX12_body 35 = .ok (.ifCond .eq 15, 3) := by decide +kernel
theorem dX12_body_38 : decode cX12_body 38 = .ok (.iload 5, 2) := by decide +kernel
theorem dX12_body_40 : decode cX12_body 40 = .ok (.iconst 0, 1) := by decide +kernel
theorem dX12_body_41 : decode cX12_body 41 = .ok (.sipush 999, 3) := by decide +kernel
theorem dX12_body_44 : decode cX12_body 44 = .ok (.invokestatic 186, 3) := by decide +kernel
theorem dX12_body_47 : decode cX12_body 47 = .ok (.ifCond .ne 6, 3) := by decide +kernel
theorem dX12_body_53 : decode cX12_body 53 = .ok (.aload_n 0, 1) := by decide +kernel
theorem dX12_body_54 : decode cX12_body 54 = .ok (.getfield 190, 3) := by decide +kernel
theorem dX12_body_57 : decode cX12_body 57 = .ok (.bipush 12, 2) := by decide +kernel
theorem dX12_body_59 : decode cX12_body 59 = .ok (.if_icmp .ne 6, 3) := by decide +kernel
theorem dX12_body_65 : decode cX12_body 65 = .ok (.aload_n 0, 1) := by decide +kernel
theorem dX12_body_66 : decode cX12_body 66 = .ok (.getfield 28, 3) := by decide +kernel
theorem dX12_body_69 : decode cX12_body 69 = .ok (.aload_n 0, 1) := by decide +kernel
theorem dX12_body_70 : decode cX12_body 70 = .ok (.getfield 190, 3) := by decide +kernel
theorem dX12_body_73 : decode cX12_body 73 = .ok (.iload_n 1, 1) := by decide +kernel
theorem dX12_body_74 : decode cX12_body 74 = .ok (.iastore, 1) := by decide +kernel
theorem dX12_body_75 : decode cX12_body 75 = .ok (.aload_n 0, 1) := by decide +kernel
theorem dX12_body_76 : decode cX12_body 76 = .ok (.getfield 34, 3) := by decide +kernel
theorem dX12_body_79 : decode cX12_body 79 = .ok (.aload_n 0, 1) := by decide +kernel
theorem dX12_body_80 : decode cX12_body 80 = .ok (.getfield 190, 3) := by decide +kernel
theorem dX12_body_83 : decode cX12_body 83 = .ok (.iload_n 2, 1) := by decide +kernel
theorem dX12_body_84 : decode cX12_body 84 = .ok (.iastore, 1) := by decide +kernel
theorem dX12_body_85 : decode cX12_body 85 = .ok (.aload_n 0, 1) := by decide +kernel
theorem dX12_body_86 : decode cX12_body 86 = .ok (.getfield 31, 3) := by decide +kernel
theorem dX12_body_89 : decode cX12_body 89 = .ok (.aload_n 0, 1) := by decide +kernel
theorem dX12_body_90 : decode cX12_body 90 = .ok (.getfield 190, 3) := by decide +kernel
theorem dX12_body_93 : decode cX12_body 93 = .ok (.aload_n 0, 1) := by decide +kernel
theorem dX12_body_94 : decode cX12_body 94 = .ok (.getfield 201, 3) := by decide +kernel
theorem dX12_body_97 : decode cX12_body 97 = .ok (.iastore, 1) := by decide +kernel
theorem dX12_body_98 : decode cX12_body 98 = .ok (.aload_n 0, 1) := by decide +kernel
theorem dX12_body_99 : decode cX12_body 99 = .ok (.getfield 37, 3) := by decide +kernel
theorem dX12_body_102 : decode cX12_body 102 = .ok (.aload_n 0, 1) := by decide +kernel
theorem dX12_body_103 : decode cX12_body 103 = .ok (.getfield 190, 3) := by decide +kernel
theorem dX12_body_106 : decode cX12_body 106 = .ok (.iload_n 3, 1) := by decide +kernel
theorem dX12_body_107 : decode cX12_body 107 = .ok (.iastore, 1) := by decide +kernel
theorem dX12_body_108 : decode cX12_body 108 = .ok (.aload_n 0, 1) := by decide +kernel
theorem dX12_body_109 : decode cX12_body 109 = .ok (.getfield 40, 3) := by decide +kernel
theorem dX12_body_112 : decode cX12_body 112 = .ok (.aload_n 0, 1) := by decide +kernel
theorem dX12_body_113 : decode cX12_body 113 = .ok (.getfield 190, 3) := by decide +kernel
theorem dX12_body_116 : decode cX12_body 116 = .ok (.iload 4, 2) := by decide +kernel
theorem dX12_body_118 : decode cX12_body 118 = .ok (.iastore, 1) := by decide +kernel
theorem dX12_body_119 : decode cX12_body 119 = .ok (.aload_n 0, 1) := by decide +kernel
theorem dX12_body_120 : decode cX12_body 120 = .ok (.getfield 43, 3) := by decide +kernel
theorem dX12_body_123 : decode cX12_body 123 = .ok (.aload_n 0, 1) := by decide +kernel
theorem dX12_body_124 : decode cX12_body 124 = .ok (.getfield 190, 3) := by decide +kernel
theorem dX12_body_127 : decode cX12_body 127 = .ok (.iload 5, 2) := by decide +kernel
theorem dX12_body_129 : decode cX12_body 129 = .ok (.iastore, 1) := by decide +kernel
theorem dX12_body_130 : decode cX12_body 130 = .ok (.aload_n 0, 1) := by decide +kernel
theorem dX12_body_131 : decode cX12_body 131 = .ok (.dup, 1) := by decide +kernel
theorem dX12_body_132 : decode cX12_body 132 = .ok (.getfield 190, 3) := by decide +kernel
theorem dX12_body_135 : decode cX12_body 135 = .ok (.iconst 1, 1) := by decide +kernel
theorem dX12_body_136 : decode cX12_body 136 = .ok (.iadd, 1) := by decide +kernel
theorem dX12_body_137 : decode cX12_body 137 = .ok (.putfield 190, 3) := by decide +kernel
theorem dX12_body_140 : decode cX12_body 140 = .ok (.aload_n 0, 1) := by decide +kernel
theorem dX12_body_141 : decode cX12_body 141 = .ok (.getfield 190, 3) := by decide +kernel
theorem dX12_body_144 : decode cX12_body 144 = .ok (.iconst 1, 1) := by decide +kernel
theorem dX12_body_145 : decode cX12_body 145 = .ok (.isub, 1) := by decide +kernel
theorem dX12_body_146 : decode cX12_body 146 = .ok (.ireturn, 1) := by decide +kernel
theorem dX12_body_50 : decode cX12_body 50 = .ok (.bipush (-2), 2) := by decide +kernel
theorem dX12_body_52 : decode cX12_body 52 = .ok (.ireturn, 1) := by decide +kernel
theorem dX12_hearer_0 : decode cX12_hearer 0 = .ok (.iload_n 1, 1) := by decide +kernel
set_option maxRecDepth 20000 in
theorem ggX12_hearer_X12_isCell : GoodIn wsX12_hearer wsX12_isCell := goodIn_r _ [6, 7, 8, 5, 9] (by decide +kernel) (by decide +kernel)
set_option maxRecDepth 20000 in
theorem gX12_hearer_X12_isCell : GoodIn wsX12_hearer (va_wsS RX12 217 yX12_isCell wsX12_isCell) := goodIn_app (goodIn_of _ (by decide +kernel)) ggX12_hearer_X12_isCell
theorem dX12_hearer_1 : decode cX12_hearer 1 = .ok (.invokestatic 217, 3) := by decide +kernel
theorem dX12_hearer_4 : decode cX12_hearer 4 = .ok (.ifCond .ne 6, 3) := by decide +kernel
theorem dX12_hearer_10 : decode cX12_hearer 10 = .ok (.aload_n 0, 1) := by decide +kernel
theorem dX12_hearer_11 : decode cX12_hearer 11 = .ok (.getfield 246, 3) := by decide +kernel
theorem dX12_hearer_14 : decode cX12_hearer 14 = .ok (.bipush 6, 2) := by decide +kernel
theorem dX12_hearer_16 : decode cX12_hearer 16 = .ok (.if_icmp .ne 6, 3) := by decide +kernel
theorem dX12_hearer_22 : decode cX12_hearer 22 = .ok (.aload_n 0, 1) := by decide +kernel
theorem dX12_hearer_23 : decode cX12_hearer 23 = .ok (.getfield 59, 3) := by decide +kernel
theorem dX12_hearer_26 : decode cX12_hearer 26 = .ok (.aload_n 0, 1) := by decide +kernel
theorem dX12_hearer_27 : decode cX12_hearer 27 = .ok (.getfield 246, 3) := by decide +kernel
theorem dX12_hearer_30 : decode cX12_hearer 30 = .ok (.iload_n 1, 1) := by decide +kernel
theorem dX12_hearer_31 : decode cX12_hearer 31 = .ok (.iastore, 1) := by decide +kernel
theorem dX12_hearer_32 : decode cX12_hearer 32 = .ok (.aload_n 0, 1) := by decide +kernel
theorem dX12_hearer_33 : decode cX12_hearer 33 = .ok (.dup, 1) := by decide +kernel
theorem dX12_hearer_34 : decode cX12_hearer 34 = .ok (.getfield 246, 3) := by decide +kernel
theorem dX12_hearer_37 : decode cX12_hearer 37 = .ok (.iconst 1, 1) := by decide +kernel
theorem dX12_hearer_38 : decode cX12_hearer 38 = .ok (.iadd, 1) := by decide +kernel
theorem dX12_hearer_39 : decode cX12_hearer 39 = .ok (.putfield 246, 3) := by decide +kernel
theorem dX12_hearer_42 : decode cX12_hearer 42 = .ok (.aload_n 0, 1) := by decide +kernel
theorem dX12_hearer_43 : decode cX12_hearer 43 = .ok (.getfield 246, 3) := by decide +kernel
theorem dX12_hearer_46 : decode cX12_hearer 46 = .ok (.iconst 1, 1) := by decide +kernel
theorem dX12_hearer_47 : decode cX12_hearer 47 = .ok (.isub, 1) := by decide +kernel
theorem dX12_hearer_48 : decode cX12_hearer 48 = .ok (.ireturn, 1) := by decide +kernel
theorem dX12_hearer_7 : decode cX12_hearer 7 = .ok (.bipush (-2), 2) := by decide +kernel
theorem dX12_hearer_9 : decode cX12_hearer 9 = .ok (.ireturn, 1) := by decide +kernel
theorem dX12_wave_0 : decode cX12_wave 0 = .ok (.iload_n 1, 1) := by decide +kernel
set_option maxRecDepth 20000 in
theorem ggX12_wave_X12_isWave : GoodIn wsX12_wave wsX12_isWave := goodIn_r _ [6, 7, 8, 5, 9] (by decide +kernel) (by decide +kernel)
set_option maxRecDepth 20000 in
theorem gX12_wave_X12_isWave : GoodIn wsX12_wave (va_wsS RX12 249 yX12_isWave wsX12_isWave) := goodIn_app (goodIn_of _ (by decide +kernel)) ggX12_wave_X12_isWave
theorem dX12_wave_1 : decode cX12_wave 1 = .ok (.invokestatic 249, 3) := by decide +kernel
theorem dX12_wave_4 : decode cX12_wave 4 = .ok (.ifCond .eq 33, 3) := by decide +kernel
theorem dX12_wave_7 : decode cX12_wave 7 = .ok (.iload_n 2, 1) := by decide +kernel
theorem dX12_wave_8 : decode cX12_wave 8 = .ok (.iconst 0, 1) := by decide +kernel
theorem dX12_wave_9 : decode cX12_wave 9 = .ok (.iconst 1, 1) := by decide +kernel
set_option maxRecDepth 20000 in
theorem ggX12_wave_X12_within : GoodIn wsX12_wave wsX12_within := goodIn_r _ [9] (by decide +kernel) (by decide +kernel)
set_option maxRecDepth 20000 in
theorem gX12_wave_X12_within : GoodIn wsX12_wave (va_wsS RX12 186 yX12_within wsX12_within) := goodIn_app (goodIn_of _ (by decide +kernel)) ggX12_wave_X12_within
theorem dX12_wave_10 : decode cX12_wave 10 = .ok (.invokestatic 186, 3) := by decide +kernel
theorem dX12_wave_13 : decode cX12_wave 13 = .ok (.ifCond .eq 24, 3) := by decide +kernel
theorem dX12_wave_16 : decode cX12_wave 16 = .ok (.iload_n 3, 1) := by decide +kernel
theorem dX12_wave_17 : decode cX12_wave 17 = .ok (.iconst 0, 1) := by decide +kernel
theorem dX12_wave_18 : decode cX12_wave 18 = .ok (.bipush 9, 2) := by decide +kernel
theorem dX12_wave_20 : decode cX12_wave 20 = .ok (.invokestatic 186, 3) := by decide +kernel
theorem dX12_wave_23 : decode cX12_wave 23 = .ok (.ifCond .eq 14, 3) := by decide +kernel
theorem dX12_wave_26 : decode cX12_wave 26 = .ok (.iload 4, 2) := by decide +kernel
theorem dX12_wave_28 : decode cX12_wave 28 = .ok (.iload_n 3, 1) := by decide +kernel
theorem dX12_wave_29 : decode cX12_wave 29 = .ok (.bipush 9, 2) := by decide +kernel
theorem dX12_wave_31 : decode cX12_wave 31 = .ok (.invokestatic 186, 3) := by decide +kernel
theorem dX12_wave_34 : decode cX12_wave 34 = .ok (.ifCond .ne 6, 3) := by decide +kernel
theorem dX12_wave_40 : decode cX12_wave 40 = .ok (.iconst 2, 1) := by decide +kernel
theorem dX12_wave_41 : decode cX12_wave 41 = .ok (.iload_n 1, 1) := by decide +kernel
theorem dX12_wave_42 : decode cX12_wave 42 = .ok (.imul, 1) := by decide +kernel
theorem dX12_wave_43 : decode cX12_wave 43 = .ok (.iload_n 2, 1) := by decide +kernel
theorem dX12_wave_44 : decode cX12_wave 44 = .ok (.iadd, 1) := by decide +kernel
theorem dX12_wave_45 : decode cX12_wave 45 = .ok (.istore 5, 2) := by decide +kernel
theorem dX12_wave_47 : decode cX12_wave 47 = .ok (.bipush 10, 2) := by decide +kernel
theorem dX12_wave_49 : decode cX12_wave 49 = .ok (.aload_n 0, 1) := by decide +kernel
theorem dX12_wave_50 : decode cX12_wave 50 = .ok (.getfield 62, 3) := by decide +kernel
theorem dX12_wave_53 : decode cX12_wave 53 = .ok (.iload 5, 2) := by decide +kernel
theorem dX12_wave_55 : decode cX12_wave 55 = .ok (.iaload, 1) := by decide +kernel
theorem dX12_wave_56 : decode cX12_wave 56 = .ok (.imul, 1) := by decide +kernel
theorem dX12_wave_57 : decode cX12_wave 57 = .ok (.aload_n 0, 1) := by decide +kernel
theorem dX12_wave_58 : decode cX12_wave 58 = .ok (.getfield 65, 3) := by decide +kernel
theorem dX12_wave_61 : decode cX12_wave 61 = .ok (.iload 5, 2) := by decide +kernel
theorem dX12_wave_63 : decode cX12_wave 63 = .ok (.iaload, 1) := by decide +kernel
theorem dX12_wave_64 : decode cX12_wave 64 = .ok (.iadd, 1) := by decide +kernel
theorem dX12_wave_65 : decode cX12_wave 65 = .ok (.istore 6, 2) := by decide +kernel
theorem dX12_wave_67 : decode cX12_wave 67 = .ok (.aload_n 0, 1) := by decide +kernel
theorem dX12_wave_68 : decode cX12_wave 68 = .ok (.getfield 62, 3) := by decide +kernel
theorem dX12_wave_71 : decode cX12_wave 71 = .ok (.iload 5, 2) := by decide +kernel
theorem dX12_wave_73 : decode cX12_wave 73 = .ok (.iload_n 3, 1) := by decide +kernel
theorem dX12_wave_74 : decode cX12_wave 74 = .ok (.iastore, 1) := by decide +kernel
theorem dX12_wave_75 : decode cX12_wave 75 = .ok (.aload_n 0, 1) := by decide +kernel
theorem dX12_wave_76 : decode cX12_wave 76 = .ok (.getfield 65, 3) := by decide +kernel
theorem dX12_wave_79 : decode cX12_wave 79 = .ok (.iload 5, 2) := by decide +kernel
theorem dX12_wave_81 : decode cX12_wave 81 = .ok (.iload 4, 2) := by decide +kernel
theorem dX12_wave_83 : decode cX12_wave 83 = .ok (.iastore, 1) := by decide +kernel
theorem dX12_wave_84 : decode cX12_wave 84 = .ok (.iload 6, 2) := by decide +kernel
theorem dX12_wave_86 : decode cX12_wave 86 = .ok (.ireturn, 1) := by decide +kernel
theorem dX12_wave_37 : decode cX12_wave 37 = .ok (.bipush (-2), 2) := by decide +kernel
theorem dX12_wave_39 : decode cX12_wave 39 = .ok (.ireturn, 1) := by decide +kernel
theorem dX12_lane_0 : decode cX12_lane 0 = .ok (.lload_n 1, 1) := by decide +kernel
theorem dX12_lane_1 : decode cX12_lane 1 = .ok (.lconst 0, 1) := by decide +kernel
theorem dX12_lane_2 : decode cX12_lane 2 = .ok (.lcmp, 1) := by decide +kernel
theorem dX12_lane_3 : decode cX12_lane 3 = .ok (.ifCond .ne 6, 3) := by decide +kernel
theorem dX12_lane_9 : decode cX12_lane 9 = .ok (.aload_n 0, 1) := by decide +kernel
theorem dX12_lane_10 : decode cX12_lane 10 = .ok (.getfield 272, 3) := by decide +kernel
theorem dX12_lane_13 : decode cX12_lane 13 = .ok (.bipush 16, 2) := by decide +kernel
theorem dX12_lane_15 : decode cX12_lane 15 = .ok (.if_icmp .ne 6, 3) := by decide +kernel
theorem dX12_lane_21 : decode cX12_lane 21 = .ok (.aload_n 0, 1) := by decide +kernel
theorem dX12_lane_22 : decode cX12_lane 22 = .ok (.getfield 89, 3) := by decide +kernel
theorem dX12_lane_25 : decode cX12_lane 25 = .ok (.aload_n 0, 1) := by decide +kernel
theorem dX12_lane_26 : decode cX12_lane 26 = .ok (.getfield 272, 3) := by decide +kernel
theorem dX12_lane_29 : decode cX12_lane 29 = .ok (.lload_n 1, 1) := by decide +kernel
theorem dX12_lane_30 : decode cX12_lane 30 = .ok (.lastore, 1) := by decide +kernel
theorem dX12_lane_31 : decode cX12_lane 31 = .ok (.aload_n 0, 1) := by decide +kernel
theorem dX12_lane_32 : decode cX12_lane 32 = .ok (.dup, 1) := by decide +kernel
theorem dX12_lane_33 : decode cX12_lane 33 = .ok (.getfield 272, 3) := by decide +kernel
theorem dX12_lane_36 : decode cX12_lane 36 = .ok (.iconst 1, 1) := by decide +kernel
theorem dX12_lane_37 : decode cX12_lane 37 = .ok (.iadd, 1) := by decide +kernel
theorem dX12_lane_38 : decode cX12_lane 38 = .ok (.putfield 272, 3) := by decide +kernel
theorem dX12_lane_41 : decode cX12_lane 41 = .ok (.aload_n 0, 1) := by decide +kernel
theorem dX12_lane_42 : decode cX12_lane 42 = .ok (.getfield 272, 3) := by decide +kernel
theorem dX12_lane_45 : decode cX12_lane 45 = .ok (.iconst 1, 1) := by decide +kernel
theorem dX12_lane_46 : decode cX12_lane 46 = .ok (.isub, 1) := by decide +kernel
theorem dX12_lane_47 : decode cX12_lane 47 = .ok (.ireturn, 1) := by decide +kernel
theorem dX12_lane_6 : decode cX12_lane 6 = .ok (.bipush (-2), 2) := by decide +kernel
theorem dX12_lane_8 : decode cX12_lane 8 = .ok (.ireturn, 1) := by decide +kernel
theorem dX12_force_0 : decode cX12_force 0 = .ok (.iload_n 1, 1) := by decide +kernel
theorem dX12_force_1 : decode cX12_force 1 = .ok (.ifCond .lt 11, 3) := by decide +kernel
theorem dX12_force_12 : decode cX12_force 12 = .ok (.bipush (-2), 2) := by decide +kernel
theorem dX12_force_14 : decode cX12_force 14 = .ok (.ireturn, 1) := by decide +kernel
theorem dX12_force_4 : decode cX12_force 4 = .ok (.iload_n 1, 1) := by decide +kernel
theorem dX12_force_5 : decode cX12_force 5 = .ok (.aload_n 0, 1) := by decide +kernel
theorem dX12_force_6 : decode cX12_force 6 = .ok (.getfield 182, 3) := by decide +kernel
theorem dX12_force_9 : decode cX12_force 9 = .ok (.if_icmp .lt 6, 3) := by decide +kernel
theorem dX12_force_15 : decode cX12_force 15 = .ok (.aload_n 0, 1) := by decide +kernel
theorem dX12_force_16 : decode cX12_force 16 = .ok (.getfield 431, 3) := by decide +kernel
theorem dX12_force_19 : decode cX12_force 19 = .ok (.istore_n 2, 1) := by decide +kernel
theorem dX12_force_20 : decode cX12_force 20 = .ok (.aload_n 0, 1) := by decide +kernel
theorem dX12_force_21 : decode cX12_force 21 = .ok (.iload_n 1, 1) := by decide +kernel
theorem dX12_force_22 : decode cX12_force 22 = .ok (.putfield 431, 3) := by decide +kernel
theorem dX12_force_25 : decode cX12_force 25 = .ok (.iload_n 2, 1) := by decide +kernel
theorem dX12_force_26 : decode cX12_force 26 = .ok (.ireturn, 1) := by decide +kernel
theorem dX12_count_0 : decode cX12_count 0 = .ok (.iload_n 1, 1) := by decide +kernel
theorem dX12_count_1 : decode cX12_count 1 = .ok (.tableswitch 150 0 14 #[75, 80, 85, 90, 95, 100, 105, 110, 115, 120, 125, 130, 135, 140, 145], 75) := by decide +kernel
theorem dX12_count_151 : decode cX12_count 151 = .ok (.bipush (-2), 2) := by decide +kernel
theorem dX12_count_153 : decode cX12_count 153 = .ok (.ireturn, 1) := by decide +kernel
theorem dX12_count_76 : decode cX12_count 76 = .ok (.aload_n 0, 1) := by decide +kernel
theorem dX12_count_77 : decode cX12_count 77 = .ok (.getfield 201, 3) := by decide +kernel
theorem dX12_count_80 : decode cX12_count 80 = .ok (.ireturn, 1) := by decide +kernel
theorem dX12_count_81 : decode cX12_count 81 = .ok (.aload_n 0, 1) := by decide +kernel
theorem dX12_count_82 : decode cX12_count 82 = .ok (.getfield 190, 3) := by decide +kernel
theorem dX12_count_85 : decode cX12_count 85 = .ok (.ireturn, 1) := by decide +kernel
theorem dX12_count_86 : decode cX12_count 86 = .ok (.aload_n 0, 1) := by decide +kernel
theorem dX12_count_87 : decode cX12_count 87 = .ok (.getfield 211, 3) := by decide +kernel
theorem dX12_count_90 : decode cX12_count 90 = .ok (.ireturn, 1) := by decide +kernel
theorem dX12_count_91 : decode cX12_count 91 = .ok (.aload_n 0, 1) := by decide +kernel
theorem dX12_count_92 : decode cX12_count 92 = .ok (.getfield 223, 3) := by decide +kernel
theorem dX12_count_95 : decode cX12_count 95 = .ok (.ireturn, 1) := by decide +kernel
theorem dX12_count_96 : decode cX12_count 96 = .ok (.aload_n 0, 1) := by decide +kernel
theorem dX12_count_97 : decode cX12_count 97 = .ok (.getfield 246, 3) := by decide +kernel
theorem dX12_count_100 : decode cX12_count 100 = .ok (.ireturn, 1) := by decide +kernel
theorem dX12_count_101 : decode cX12_count 101 = .ok (.aload_n 0, 1) := by decide +kernel
theorem dX12_count_102 : decode cX12_count 102 = .ok (.getfield 252, 3) := by decide +kernel
theorem dX12_count_105 : decode cX12_count 105 = .ok (.ireturn, 1) := by decide +kernel
theorem dX12_count_106 : decode cX12_count 106 = .ok (.aload_n 0, 1) := by decide +kernel
theorem dX12_count_107 : decode cX12_count 107 = .ok (.getfield 263, 3) := by decide +kernel
theorem dX12_count_110 : decode cX12_count 110 = .ok (.ireturn, 1) := by decide +kernel
theorem dX12_count_111 : decode cX12_count 111 = .ok (.aload_n 0, 1) := by decide +kernel
theorem dX12_count_112 : decode cX12_count 112 = .ok (.getfield 272, 3) := by decide +kernel
theorem dX12_count_115 : decode cX12_count 115 = .ok (.ireturn, 1) := by decide +kernel
theorem dX12_count_116 : decode cX12_count 116 = .ok (.aload_n 0, 1) := by decide +kernel
theorem dX12_count_117 : decode cX12_count 117 = .ok (.getfield 320, 3) := by decide +kernel
theorem dX12_count_120 : decode cX12_count 120 = .ok (.ireturn, 1) := by decide +kernel
theorem dX12_count_121 : decode cX12_count 121 = .ok (.aload_n 0, 1) := by decide +kernel
theorem dX12_count_122 : decode cX12_count 122 = .ok (.getfield 440, 3) := by decide +kernel
theorem dX12_count_125 : decode cX12_count 125 = .ok (.ireturn, 1) := by decide +kernel
theorem dX12_count_126 : decode cX12_count 126 = .ok (.aload_n 0, 1) := by decide +kernel
theorem dX12_count_127 : decode cX12_count 127 = .ok (.getfield 448, 3) := by decide +kernel
theorem dX12_count_130 : decode cX12_count 130 = .ok (.ireturn, 1) := by decide +kernel
theorem dX12_count_131 : decode cX12_count 131 = .ok (.aload_n 0, 1) := by decide +kernel
theorem dX12_count_132 : decode cX12_count 132 = .ok (.getfield 182, 3) := by decide +kernel
theorem dX12_count_135 : decode cX12_count 135 = .ok (.ireturn, 1) := by decide +kernel
theorem dX12_count_136 : decode cX12_count 136 = .ok (.aload_n 0, 1) := by decide +kernel
theorem dX12_count_137 : decode cX12_count 137 = .ok (.getfield 323, 3) := by decide +kernel
theorem dX12_count_140 : decode cX12_count 140 = .ok (.ireturn, 1) := by decide +kernel
theorem dX12_count_141 : decode cX12_count 141 = .ok (.aload_n 0, 1) := by decide +kernel
theorem dX12_count_142 : decode cX12_count 142 = .ok (.getfield 431, 3) := by decide +kernel
theorem dX12_count_145 : decode cX12_count 145 = .ok (.ireturn, 1) := by decide +kernel
theorem dX12_count_146 : decode cX12_count 146 = .ok (.aload_n 0, 1) := by decide +kernel
theorem dX12_count_147 : decode cX12_count 147 = .ok (.getfield 307, 3) := by decide +kernel
theorem dX12_count_150 : decode cX12_count 150 = .ok (.ireturn, 1) := by decide +kernel
set_option maxHeartbeats 1000000 in
set_option maxRecDepth 100000 in
theorem rt_X12_within (l : Launch) (p0 p1 p2 : Int32) : Met l yX12_within wsX12_within ({ frames := 0, cells := 0, slots := 0, locals := 0 }) (va_Pc [.int p0, .int p1, .int p2] (fun _ => True)) (vp_Si (fun r : Int32 => ((p1 ≤ p0 ∧ p0 ≤ p2) ∧ r = 1) ∨ ((¬ (p1 ≤ p0 ∧ p0 ≤ p2)) ∧ r = 0))) 0 0 (fun _ => False) := by
  refine Met.ofW (cc := cX12_within) (maxL := 3) (ret := (some .boolean)) (by decide) rfl ?_
  intro p e s m args below meth c s₁ B hml hv
  obtain ⟨rfl, _⟩ := hv
  have hx := B.exec
  have hb := B.bytes
  have hr := B.returns
  have hts := atoms_spec (ws := wsX12_within) B.pre
  have hown : s.vm.findClass RX12 = some m.cls := findClass_of_methodNamed B.named
  have hlocks := B.notSynchronized
  have hl := lv_entry ([.int p0, .int p1, .int p2]) (n := 3) (Nat.le_of_ble_eq_true rfl)
  rw [lg_entry_eq]
  generalize (lg_sl ([.int p0, .int p1, .int p2]) ++ List.replicate (3 - (lg_sl ([.int p0, .int p1, .int p2])).length) Slot.unset).toArray = ls at hl ⊢
  have hl : lv_has ls 3 [(0, .int p0), (1, .int p1), (2, .int p2)] := hl
  refine lv_iload_n hx hb dX12_within_0 rfl (lv_at hl 0 rfl) ?_
  refine lv_iload_n hx hb dX12_within_1 rfl (lv_at hl 1 rfl) ?_
  refine lv_icmp_lt (tgt := 14) hx hb dX12_within_2 (by decide) (fun c_1 => ?_) (fun c_1 => ?_)
  · refine lv_iconst (v := 0) hx hb dX12_within_14 (by decide) ?_
    have hpost : ((p1 ≤ p0 ∧ p0 ≤ p2) ∧ (0 : Int32) = 1) ∨ ((¬ (p1 ≤ p0 ∧ p0 ≤ p2)) ∧ (0 : Int32) = 0) := by
      try simp only [fa_lt, fa_le, fa_eq, fa_lt64, fa_le64, fa_eq64, Int32.reduceToInt, Int64.reduceToInt, zi_ite] at c_1
      first
      | exact Or.inl ⟨by (try simp only [fa_lt, fa_le, fa_eq, fa_lt64, fa_le64, fa_eq64, Int32.reduceToInt, Int64.reduceToInt, zi_ite]); omega, rfl⟩
      | exact Or.inr (⟨by (try simp only [fa_lt, fa_le, fa_eq, fa_lt64, fa_le64, fa_eq64, Int32.reduceToInt, Int64.reduceToInt, zi_ite]); omega, rfl⟩)
    exact W.zret (v := 0) hx hb hr rfl (fun t ht hW => ⟨0, rfl, hpost, ht⟩) (fun _ h => absurd h List.not_mem_nil) dX12_within_15
  · refine lv_iload_n hx hb dX12_within_5 rfl (lv_at hl 0 rfl) ?_
    refine lv_iload_n hx hb dX12_within_6 rfl (lv_at hl 2 rfl) ?_
    refine lv_icmp_gt (tgt := 14) hx hb dX12_within_7 (by decide) (fun c_2 => ?_) (fun c_2 => ?_)
    · refine lv_iconst (v := 0) hx hb dX12_within_14 (by decide) ?_
      have hpost : ((p1 ≤ p0 ∧ p0 ≤ p2) ∧ (0 : Int32) = 1) ∨ ((¬ (p1 ≤ p0 ∧ p0 ≤ p2)) ∧ (0 : Int32) = 0) := by
        try simp only [fa_lt, fa_le, fa_eq, fa_lt64, fa_le64, fa_eq64, Int32.reduceToInt, Int64.reduceToInt, zi_ite] at c_1
        try simp only [fa_lt, fa_le, fa_eq, fa_lt64, fa_le64, fa_eq64, Int32.reduceToInt, Int64.reduceToInt, zi_ite] at c_2
        first
        | exact Or.inl ⟨by (try simp only [fa_lt, fa_le, fa_eq, fa_lt64, fa_le64, fa_eq64, Int32.reduceToInt, Int64.reduceToInt, zi_ite]); omega, rfl⟩
        | exact Or.inr (⟨by (try simp only [fa_lt, fa_le, fa_eq, fa_lt64, fa_le64, fa_eq64, Int32.reduceToInt, Int64.reduceToInt, zi_ite]); omega, rfl⟩)
      exact W.zret (v := 0) hx hb hr rfl (fun t ht hW => ⟨0, rfl, hpost, ht⟩) (fun _ h => absurd h List.not_mem_nil) dX12_within_15
    · refine lv_iconst (v := 1) hx hb dX12_within_10 (by decide) ?_
      refine lv_goto (tgt := 15) hx hb dX12_within_11 (by decide) ?_
      have hpost : ((p1 ≤ p0 ∧ p0 ≤ p2) ∧ (1 : Int32) = 1) ∨ ((¬ (p1 ≤ p0 ∧ p0 ≤ p2)) ∧ (1 : Int32) = 0) := by
        try simp only [fa_lt, fa_le, fa_eq, fa_lt64, fa_le64, fa_eq64, Int32.reduceToInt, Int64.reduceToInt, zi_ite] at c_1
        try simp only [fa_lt, fa_le, fa_eq, fa_lt64, fa_le64, fa_eq64, Int32.reduceToInt, Int64.reduceToInt, zi_ite] at c_2
        first
        | exact Or.inl ⟨by (try simp only [fa_lt, fa_le, fa_eq, fa_lt64, fa_le64, fa_eq64, Int32.reduceToInt, Int64.reduceToInt, zi_ite]); omega, rfl⟩
        | exact Or.inr (⟨by (try simp only [fa_lt, fa_le, fa_eq, fa_lt64, fa_le64, fa_eq64, Int32.reduceToInt, Int64.reduceToInt, zi_ite]); omega, rfl⟩)
      exact W.zret (v := 1) hx hb hr rfl (fun t ht hW => ⟨1, rfl, hpost, ht⟩) (fun _ h => absurd h List.not_mem_nil) dX12_within_15
set_option maxHeartbeats 1000000 in
set_option maxRecDepth 100000 in
theorem rt_X12_isHour (l : Launch) (p0 : Int32) : Met l yX12_isHour wsX12_isHour ({ frames := 1, cells := 0, slots := 0, locals := 22 }) (va_Pc [.int p0] (fun _ => True)) (vp_Si (fun r : Int32 => ((0 ≤ p0 ∧ p0 ≤ 239) ∧ r = 1) ∨ ((¬ (0 ≤ p0 ∧ p0 ≤ 239)) ∧ r = 0))) 0 0 (fun _ => False) := by
  refine Met.ofW (cc := cX12_isHour) (maxL := 1) (ret := (some .boolean)) (by decide) rfl ?_
  intro p e s m args below meth c s₁ B hml hv
  obtain ⟨rfl, _⟩ := hv
  have hx := B.exec
  have hb := B.bytes
  have hr := B.returns
  have hts := atoms_spec (ws := wsX12_isHour) B.pre
  have hown : s.vm.findClass RX12 = some m.cls := findClass_of_methodNamed B.named
  have hlocks := B.notSynchronized
  have hl := lv_entry ([.int p0]) (n := 1) (Nat.le_of_ble_eq_true rfl)
  rw [lg_entry_eq]
  generalize (lg_sl ([.int p0]) ++ List.replicate (1 - (lg_sl ([.int p0])).length) Slot.unset).toArray = ls at hl ⊢
  have hl : lv_has ls 1 [(0, .int p0)] := hl
  refine lv_iload_n hx hb dX12_isHour_0 rfl (lv_at hl 0 rfl) ?_
  refine lv_iconst (v := 0) hx hb dX12_isHour_1 (by decide) ?_
  refine lv_sipush (v := 239) hx hb dX12_isHour_2 (by decide) ?_
  refine vp_callSi (va_Run.run (va_runS (As := [.int p0, .int 0, .int 239]) (rest := []) ⟨hx, hb, hml, hown, hts⟩ (rt_X12_within l p0 0 239) (va_cwS 3 hts gX12_isHour_X12_within rfl rfl rfl (by decide +kernel) ⟨Nat.le_of_ble_eq_true rfl, Nat.le_of_ble_eq_true rfl⟩) ⟨fun a U g mk q => q, fun U hU hW => ⟨rfl, trivial⟩⟩ rfl rfl hl.1 rfl (lv_room (Nat.le_of_ble_eq_true rfl)) dX12_isHour_5 ⟨by decide +kernel, by decide +kernel⟩)) (fun r_1 hr_1 => ?_)
  rcases hr_1 with ⟨b_2, rfl⟩ | ⟨b_2, rfl⟩
  · have hpost : ((0 ≤ p0 ∧ p0 ≤ 239) ∧ (1 : Int32) = 1) ∨ ((¬ (0 ≤ p0 ∧ p0 ≤ 239)) ∧ (1 : Int32) = 0) := by
      try simp only [fa_lt, fa_le, fa_eq, fa_lt64, fa_le64, fa_eq64, Int32.reduceToInt, Int64.reduceToInt, zi_ite] at b_2
      first
      | exact Or.inl ⟨by (try simp only [fa_lt, fa_le, fa_eq, fa_lt64, fa_le64, fa_eq64, Int32.reduceToInt, Int64.reduceToInt, zi_ite]); omega, rfl⟩
      | exact Or.inr (⟨by (try simp only [fa_lt, fa_le, fa_eq, fa_lt64, fa_le64, fa_eq64, Int32.reduceToInt, Int64.reduceToInt, zi_ite]); omega, rfl⟩)
    exact W.zret (v := 1) hx hb hr rfl (fun t ht hW => ⟨1, rfl, hpost, ht⟩) (fun _ h => absurd h List.not_mem_nil) dX12_isHour_8
  · have hpost : ((0 ≤ p0 ∧ p0 ≤ 239) ∧ (0 : Int32) = 1) ∨ ((¬ (0 ≤ p0 ∧ p0 ≤ 239)) ∧ (0 : Int32) = 0) := by
      try simp only [fa_lt, fa_le, fa_eq, fa_lt64, fa_le64, fa_eq64, Int32.reduceToInt, Int64.reduceToInt, zi_ite] at b_2
      first
      | exact Or.inl ⟨by (try simp only [fa_lt, fa_le, fa_eq, fa_lt64, fa_le64, fa_eq64, Int32.reduceToInt, Int64.reduceToInt, zi_ite]); omega, rfl⟩
      | exact Or.inr (⟨by (try simp only [fa_lt, fa_le, fa_eq, fa_lt64, fa_le64, fa_eq64, Int32.reduceToInt, Int64.reduceToInt, zi_ite]); omega, rfl⟩)
    exact W.zret (v := 0) hx hb hr rfl (fun t ht hW => ⟨0, rfl, hpost, ht⟩) (fun _ h => absurd h List.not_mem_nil) dX12_isHour_8
set_option maxHeartbeats 1000000 in
set_option maxRecDepth 100000 in
theorem rt_X12_isCell (l : Launch) (p0 : Int32) : Met l yX12_isCell wsX12_isCell ({ frames := 1, cells := 0, slots := 0, locals := 22 }) (va_Pc [.int p0] (fun _ => True)) (vp_Si (fun r : Int32 => ((0 ≤ p0 ∧ p0 ≤ 63) ∧ r = 1) ∨ ((¬ (0 ≤ p0 ∧ p0 ≤ 63)) ∧ r = 0))) 0 0 (fun _ => False) := by
  refine Met.ofW (cc := cX12_isCell) (maxL := 1) (ret := (some .boolean)) (by decide) rfl ?_
  intro p e s m args below meth c s₁ B hml hv
  obtain ⟨rfl, _⟩ := hv
  have hx := B.exec
  have hb := B.bytes
  have hr := B.returns
  have hts := atoms_spec (ws := wsX12_isCell) B.pre
  have hown : s.vm.findClass RX12 = some m.cls := findClass_of_methodNamed B.named
  have hlocks := B.notSynchronized
  have hl := lv_entry ([.int p0]) (n := 1) (Nat.le_of_ble_eq_true rfl)
  rw [lg_entry_eq]
  generalize (lg_sl ([.int p0]) ++ List.replicate (1 - (lg_sl ([.int p0])).length) Slot.unset).toArray = ls at hl ⊢
  have hl : lv_has ls 1 [(0, .int p0)] := hl
  refine lv_iload_n hx hb dX12_isCell_0 rfl (lv_at hl 0 rfl) ?_
  refine lv_iconst (v := 0) hx hb dX12_isCell_1 (by decide) ?_
  refine lv_bipush (v := 63) hx hb dX12_isCell_2 (by decide) ?_
  refine vp_callSi (va_Run.run (va_runS (As := [.int p0, .int 0, .int 63]) (rest := []) ⟨hx, hb, hml, hown, hts⟩ (rt_X12_within l p0 0 63) (va_cwS 3 hts gX12_isCell_X12_within rfl rfl rfl (by decide +kernel) ⟨Nat.le_of_ble_eq_true rfl, Nat.le_of_ble_eq_true rfl⟩) ⟨fun a U g mk q => q, fun U hU hW => ⟨rfl, trivial⟩⟩ rfl rfl hl.1 rfl (lv_room (Nat.le_of_ble_eq_true rfl)) dX12_isCell_4 ⟨by decide +kernel, by decide +kernel⟩)) (fun r_1 hr_1 => ?_)
  rcases hr_1 with ⟨b_2, rfl⟩ | ⟨b_2, rfl⟩
  · have hpost : ((0 ≤ p0 ∧ p0 ≤ 63) ∧ (1 : Int32) = 1) ∨ ((¬ (0 ≤ p0 ∧ p0 ≤ 63)) ∧ (1 : Int32) = 0) := by
      try simp only [fa_lt, fa_le, fa_eq, fa_lt64, fa_le64, fa_eq64, Int32.reduceToInt, Int64.reduceToInt, zi_ite] at b_2
      first
      | exact Or.inl ⟨by (try simp only [fa_lt, fa_le, fa_eq, fa_lt64, fa_le64, fa_eq64, Int32.reduceToInt, Int64.reduceToInt, zi_ite]); omega, rfl⟩
      | exact Or.inr (⟨by (try simp only [fa_lt, fa_le, fa_eq, fa_lt64, fa_le64, fa_eq64, Int32.reduceToInt, Int64.reduceToInt, zi_ite]); omega, rfl⟩)
    exact W.zret (v := 1) hx hb hr rfl (fun t ht hW => ⟨1, rfl, hpost, ht⟩) (fun _ h => absurd h List.not_mem_nil) dX12_isCell_7
  · have hpost : ((0 ≤ p0 ∧ p0 ≤ 63) ∧ (0 : Int32) = 1) ∨ ((¬ (0 ≤ p0 ∧ p0 ≤ 63)) ∧ (0 : Int32) = 0) := by
      try simp only [fa_lt, fa_le, fa_eq, fa_lt64, fa_le64, fa_eq64, Int32.reduceToInt, Int64.reduceToInt, zi_ite] at b_2
      first
      | exact Or.inl ⟨by (try simp only [fa_lt, fa_le, fa_eq, fa_lt64, fa_le64, fa_eq64, Int32.reduceToInt, Int64.reduceToInt, zi_ite]); omega, rfl⟩
      | exact Or.inr (⟨by (try simp only [fa_lt, fa_le, fa_eq, fa_lt64, fa_le64, fa_eq64, Int32.reduceToInt, Int64.reduceToInt, zi_ite]); omega, rfl⟩)
    exact W.zret (v := 0) hx hb hr rfl (fun t ht hW => ⟨0, rfl, hpost, ht⟩) (fun _ h => absurd h List.not_mem_nil) dX12_isCell_7
set_option maxHeartbeats 1000000 in
set_option maxRecDepth 100000 in
theorem rt_X12_isWave (l : Launch) (p0 : Int32) : Met l yX12_isWave wsX12_isWave ({ frames := 1, cells := 0, slots := 0, locals := 22 }) (va_Pc [.int p0] (fun _ => True)) (vp_Si (fun r : Int32 => ((0 ≤ p0 ∧ p0 ≤ 3) ∧ r = 1) ∨ ((¬ (0 ≤ p0 ∧ p0 ≤ 3)) ∧ r = 0))) 0 0 (fun _ => False) := by
  refine Met.ofW (cc := cX12_isWave) (maxL := 1) (ret := (some .boolean)) (by decide) rfl ?_
  intro p e s m args below meth c s₁ B hml hv
  obtain ⟨rfl, _⟩ := hv
  have hx := B.exec
  have hb := B.bytes
  have hr := B.returns
  have hts := atoms_spec (ws := wsX12_isWave) B.pre
  have hown : s.vm.findClass RX12 = some m.cls := findClass_of_methodNamed B.named
  have hlocks := B.notSynchronized
  have hl := lv_entry ([.int p0]) (n := 1) (Nat.le_of_ble_eq_true rfl)
  rw [lg_entry_eq]
  generalize (lg_sl ([.int p0]) ++ List.replicate (1 - (lg_sl ([.int p0])).length) Slot.unset).toArray = ls at hl ⊢
  have hl : lv_has ls 1 [(0, .int p0)] := hl
  refine lv_iload_n hx hb dX12_isWave_0 rfl (lv_at hl 0 rfl) ?_
  refine lv_iconst (v := 0) hx hb dX12_isWave_1 (by decide) ?_
  refine lv_iconst (v := 3) hx hb dX12_isWave_2 (by decide) ?_
  refine vp_callSi (va_Run.run (va_runS (As := [.int p0, .int 0, .int 3]) (rest := []) ⟨hx, hb, hml, hown, hts⟩ (rt_X12_within l p0 0 3) (va_cwS 3 hts gX12_isWave_X12_within rfl rfl rfl (by decide +kernel) ⟨Nat.le_of_ble_eq_true rfl, Nat.le_of_ble_eq_true rfl⟩) ⟨fun a U g mk q => q, fun U hU hW => ⟨rfl, trivial⟩⟩ rfl rfl hl.1 rfl (lv_room (Nat.le_of_ble_eq_true rfl)) dX12_isWave_3 ⟨by decide +kernel, by decide +kernel⟩)) (fun r_1 hr_1 => ?_)
  rcases hr_1 with ⟨b_2, rfl⟩ | ⟨b_2, rfl⟩
  · have hpost : ((0 ≤ p0 ∧ p0 ≤ 3) ∧ (1 : Int32) = 1) ∨ ((¬ (0 ≤ p0 ∧ p0 ≤ 3)) ∧ (1 : Int32) = 0) := by
      try simp only [fa_lt, fa_le, fa_eq, fa_lt64, fa_le64, fa_eq64, Int32.reduceToInt, Int64.reduceToInt, zi_ite] at b_2
      first
      | exact Or.inl ⟨by (try simp only [fa_lt, fa_le, fa_eq, fa_lt64, fa_le64, fa_eq64, Int32.reduceToInt, Int64.reduceToInt, zi_ite]); omega, rfl⟩
      | exact Or.inr (⟨by (try simp only [fa_lt, fa_le, fa_eq, fa_lt64, fa_le64, fa_eq64, Int32.reduceToInt, Int64.reduceToInt, zi_ite]); omega, rfl⟩)
    exact W.zret (v := 1) hx hb hr rfl (fun t ht hW => ⟨1, rfl, hpost, ht⟩) (fun _ h => absurd h List.not_mem_nil) dX12_isWave_6
  · have hpost : ((0 ≤ p0 ∧ p0 ≤ 3) ∧ (0 : Int32) = 1) ∨ ((¬ (0 ≤ p0 ∧ p0 ≤ 3)) ∧ (0 : Int32) = 0) := by
      try simp only [fa_lt, fa_le, fa_eq, fa_lt64, fa_le64, fa_eq64, Int32.reduceToInt, Int64.reduceToInt, zi_ite] at b_2
      first
      | exact Or.inl ⟨by (try simp only [fa_lt, fa_le, fa_eq, fa_lt64, fa_le64, fa_eq64, Int32.reduceToInt, Int64.reduceToInt, zi_ite]); omega, rfl⟩
      | exact Or.inr (⟨by (try simp only [fa_lt, fa_le, fa_eq, fa_lt64, fa_le64, fa_eq64, Int32.reduceToInt, Int64.reduceToInt, zi_ite]); omega, rfl⟩)
    exact W.zret (v := 0) hx hb hr rfl (fun t ht hW => ⟨0, rfl, hpost, ht⟩) (fun _ h => absurd h List.not_mem_nil) dX12_isWave_6
set_option maxHeartbeats 1000000 in
set_option maxRecDepth 100000 in
theorem rt_X12_isSheet (l : Launch) (p0 : Int32) : Met l yX12_isSheet wsX12_isSheet ({ frames := 1, cells := 0, slots := 0, locals := 22 }) (va_Pc [.int p0] (fun _ => True)) (vp_Si (fun r : Int32 => ((0 ≤ p0 ∧ p0 ≤ 3) ∧ r = 1) ∨ ((¬ (0 ≤ p0 ∧ p0 ≤ 3)) ∧ r = 0))) 0 0 (fun _ => False) := by
  refine Met.ofW (cc := cX12_isSheet) (maxL := 1) (ret := (some .boolean)) (by decide) rfl ?_
  intro p e s m args below meth c s₁ B hml hv
  obtain ⟨rfl, _⟩ := hv
  have hx := B.exec
  have hb := B.bytes
  have hr := B.returns
  have hts := atoms_spec (ws := wsX12_isSheet) B.pre
  have hown : s.vm.findClass RX12 = some m.cls := findClass_of_methodNamed B.named
  have hlocks := B.notSynchronized
  have hl := lv_entry ([.int p0]) (n := 1) (Nat.le_of_ble_eq_true rfl)
  rw [lg_entry_eq]
  generalize (lg_sl ([.int p0]) ++ List.replicate (1 - (lg_sl ([.int p0])).length) Slot.unset).toArray = ls at hl ⊢
  have hl : lv_has ls 1 [(0, .int p0)] := hl
  refine lv_iload_n hx hb dX12_isSheet_0 rfl (lv_at hl 0 rfl) ?_
  refine lv_iconst (v := 0) hx hb dX12_isSheet_1 (by decide) ?_
  refine lv_iconst (v := 3) hx hb dX12_isSheet_2 (by decide) ?_
  refine vp_callSi (va_Run.run (va_runS (As := [.int p0, .int 0, .int 3]) (rest := []) ⟨hx, hb, hml, hown, hts⟩ (rt_X12_within l p0 0 3) (va_cwS 3 hts gX12_isSheet_X12_within rfl rfl rfl (by decide +kernel) ⟨Nat.le_of_ble_eq_true rfl, Nat.le_of_ble_eq_true rfl⟩) ⟨fun a U g mk q => q, fun U hU hW => ⟨rfl, trivial⟩⟩ rfl rfl hl.1 rfl (lv_room (Nat.le_of_ble_eq_true rfl)) dX12_isSheet_3 ⟨by decide +kernel, by decide +kernel⟩)) (fun r_1 hr_1 => ?_)
  rcases hr_1 with ⟨b_2, rfl⟩ | ⟨b_2, rfl⟩
  · have hpost : ((0 ≤ p0 ∧ p0 ≤ 3) ∧ (1 : Int32) = 1) ∨ ((¬ (0 ≤ p0 ∧ p0 ≤ 3)) ∧ (1 : Int32) = 0) := by
      try simp only [fa_lt, fa_le, fa_eq, fa_lt64, fa_le64, fa_eq64, Int32.reduceToInt, Int64.reduceToInt, zi_ite] at b_2
      first
      | exact Or.inl ⟨by (try simp only [fa_lt, fa_le, fa_eq, fa_lt64, fa_le64, fa_eq64, Int32.reduceToInt, Int64.reduceToInt, zi_ite]); omega, rfl⟩
      | exact Or.inr (⟨by (try simp only [fa_lt, fa_le, fa_eq, fa_lt64, fa_le64, fa_eq64, Int32.reduceToInt, Int64.reduceToInt, zi_ite]); omega, rfl⟩)
    exact W.zret (v := 1) hx hb hr rfl (fun t ht hW => ⟨1, rfl, hpost, ht⟩) (fun _ h => absurd h List.not_mem_nil) dX12_isSheet_6
  · have hpost : ((0 ≤ p0 ∧ p0 ≤ 3) ∧ (0 : Int32) = 1) ∨ ((¬ (0 ≤ p0 ∧ p0 ≤ 3)) ∧ (0 : Int32) = 0) := by
      try simp only [fa_lt, fa_le, fa_eq, fa_lt64, fa_le64, fa_eq64, Int32.reduceToInt, Int64.reduceToInt, zi_ite] at b_2
      first
      | exact Or.inl ⟨by (try simp only [fa_lt, fa_le, fa_eq, fa_lt64, fa_le64, fa_eq64, Int32.reduceToInt, Int64.reduceToInt, zi_ite]); omega, rfl⟩
      | exact Or.inr (⟨by (try simp only [fa_lt, fa_le, fa_eq, fa_lt64, fa_le64, fa_eq64, Int32.reduceToInt, Int64.reduceToInt, zi_ite]); omega, rfl⟩)
    exact W.zret (v := 0) hx hb hr rfl (fun t ht hW => ⟨0, rfl, hpost, ht⟩) (fun _ h => absurd h List.not_mem_nil) dX12_isSheet_6
set_option maxHeartbeats 1000000 in
set_option maxRecDepth 100000 in
theorem rt_X12_areHours (l : Launch) (p0 p1 : Int32) : Met l yX12_areHours wsX12_areHours ({ frames := 1, cells := 0, slots := 0, locals := 22 }) (va_Pc [.int p0, .int p1] (fun _ => True)) (vp_Si (fun r : Int32 => ((0 ≤ p0 ∧ p0 < p1 ∧ p1 ≤ 240) ∧ r = 1) ∨ ((¬ (0 ≤ p0 ∧ p0 < p1 ∧ p1 ≤ 240)) ∧ r = 0))) 0 0 (fun _ => False) := by
  refine Met.ofW (cc := cX12_areHours) (maxL := 2) (ret := (some .boolean)) (by decide) rfl ?_
  intro p e s m args below meth c s₁ B hml hv
  obtain ⟨rfl, _⟩ := hv
  have hx := B.exec
  have hb := B.bytes
  have hr := B.returns
  have hts := atoms_spec (ws := wsX12_areHours) B.pre
  have hown : s.vm.findClass RX12 = some m.cls := findClass_of_methodNamed B.named
  have hlocks := B.notSynchronized
  have hl := lv_entry ([.int p0, .int p1]) (n := 2) (Nat.le_of_ble_eq_true rfl)
  rw [lg_entry_eq]
  generalize (lg_sl ([.int p0, .int p1]) ++ List.replicate (2 - (lg_sl ([.int p0, .int p1])).length) Slot.unset).toArray = ls at hl ⊢
  have hl : lv_has ls 2 [(0, .int p0), (1, .int p1)] := hl
  refine lv_iload_n hx hb dX12_areHours_0 rfl (lv_at hl 0 rfl) ?_
  refine lv_iconst (v := 0) hx hb dX12_areHours_1 (by decide) ?_
  refine lv_sipush (v := 240) hx hb dX12_areHours_2 (by decide) ?_
  refine vp_callSi (va_Run.run (va_runS (As := [.int p0, .int 0, .int 240]) (rest := []) ⟨hx, hb, hml, hown, hts⟩ (rt_X12_within l p0 0 240) (va_cwS 3 hts gX12_areHours_X12_within rfl rfl rfl (by decide +kernel) ⟨Nat.le_of_ble_eq_true rfl, Nat.le_of_ble_eq_true rfl⟩) ⟨fun a U g mk q => q, fun U hU hW => ⟨rfl, trivial⟩⟩ rfl rfl hl.1 rfl (lv_room (Nat.le_of_ble_eq_true rfl)) dX12_areHours_5 ⟨by decide +kernel, by decide +kernel⟩)) (fun r_1 hr_1 => ?_)
  rcases hr_1 with ⟨b_2, rfl⟩ | ⟨b_2, rfl⟩
  · refine lv_if_eq (tgt := 28) hx hb dX12_areHours_8 (by decide) (fun c9 => absurd c9 (by decide)) (fun _ => ?_)
    refine lv_iload_n hx hb dX12_areHours_11 rfl (lv_at hl 1 rfl) ?_
    refine lv_iload_n hx hb dX12_areHours_12 rfl (lv_at hl 0 rfl) ?_
    refine lv_iconst (v := 1) hx hb dX12_areHours_13 (by decide) ?_
    refine lv_iadd hx hb dX12_areHours_14 ?_
    refine lv_topi (fun y_3 ey_3 => ?_)
    have ty_3 : y_3.toInt = p0.toInt + 1 := by
      try simp only [fa_lt, fa_le, fa_eq, fa_lt64, fa_le64, fa_eq64, Int32.reduceToInt, Int64.reduceToInt, zi_ite] at b_2
      rw [ey_3]; exact (zi_add _ _ (by (try simp only [Int32.reduceToInt]) <;> omega) (by (try simp only [Int32.reduceToInt]) <;> omega))
    refine lv_sipush (v := 240) hx hb dX12_areHours_15 (by decide) ?_
    refine vp_callSi (va_Run.run (va_runS (As := [.int p1, .int y_3, .int 240]) (rest := []) ⟨hx, hb, hml, hown, hts⟩ (rt_X12_within l p1 y_3 240) (va_cwS 3 hts gX12_areHours_X12_within rfl rfl rfl (by decide +kernel) ⟨Nat.le_of_ble_eq_true rfl, Nat.le_of_ble_eq_true rfl⟩) ⟨fun a U g mk q => q, fun U hU hW => ⟨rfl, trivial⟩⟩ rfl rfl hl.1 rfl (lv_room (Nat.le_of_ble_eq_true rfl)) dX12_areHours_18 ⟨by decide +kernel, by decide +kernel⟩)) (fun r_4 hr_4 => ?_)
    rcases hr_4 with ⟨b_5, rfl⟩ | ⟨b_5, rfl⟩
    · refine lv_if_eq (tgt := 28) hx hb dX12_areHours_21 (by decide) (fun c9 => absurd c9 (by decide)) (fun _ => ?_)
      refine lv_iconst (v := 1) hx hb dX12_areHours_24 (by decide) ?_
      refine lv_goto (tgt := 29) hx hb dX12_areHours_25 (by decide) ?_
      have hpost : ((0 ≤ p0 ∧ p0 < p1 ∧ p1 ≤ 240) ∧ (1 : Int32) = 1) ∨ ((¬ (0 ≤ p0 ∧ p0 < p1 ∧ p1 ≤ 240)) ∧ (1 : Int32) = 0) := by
        try simp only [fa_lt, fa_le, fa_eq, fa_lt64, fa_le64, fa_eq64, Int32.reduceToInt, Int64.reduceToInt, zi_ite] at b_2
        try simp only [fa_lt, fa_le, fa_eq, fa_lt64, fa_le64, fa_eq64, Int32.reduceToInt, Int64.reduceToInt, zi_ite] at ty_3
        try simp only [fa_lt, fa_le, fa_eq, fa_lt64, fa_le64, fa_eq64, Int32.reduceToInt, Int64.reduceToInt, zi_ite] at b_5
        first
        | exact Or.inl ⟨by (try simp only [fa_lt, fa_le, fa_eq, fa_lt64, fa_le64, fa_eq64, Int32.reduceToInt, Int64.reduceToInt, zi_ite]); omega, rfl⟩
        | exact Or.inr (⟨by (try simp only [fa_lt, fa_le, fa_eq, fa_lt64, fa_le64, fa_eq64, Int32.reduceToInt, Int64.reduceToInt, zi_ite]); omega, rfl⟩)
      exact W.zret (v := 1) hx hb hr rfl (fun t ht hW => ⟨1, rfl, hpost, ht⟩) (fun _ h => absurd h List.not_mem_nil) dX12_areHours_29
    · refine lv_if_eq (tgt := 28) hx hb dX12_areHours_21 (by decide) (fun _ => ?_) (fun c9 => absurd (by decide) c9)
      refine lv_iconst (v := 0) hx hb dX12_areHours_28 (by decide) ?_
      have hpost : ((0 ≤ p0 ∧ p0 < p1 ∧ p1 ≤ 240) ∧ (0 : Int32) = 1) ∨ ((¬ (0 ≤ p0 ∧ p0 < p1 ∧ p1 ≤ 240)) ∧ (0 : Int32) = 0) := by
        try simp only [fa_lt, fa_le, fa_eq, fa_lt64, fa_le64, fa_eq64, Int32.reduceToInt, Int64.reduceToInt, zi_ite] at b_2
        try simp only [fa_lt, fa_le, fa_eq, fa_lt64, fa_le64, fa_eq64, Int32.reduceToInt, Int64.reduceToInt, zi_ite] at ty_3
        try simp only [fa_lt, fa_le, fa_eq, fa_lt64, fa_le64, fa_eq64, Int32.reduceToInt, Int64.reduceToInt, zi_ite] at b_5
        first
        | exact Or.inl ⟨by (try simp only [fa_lt, fa_le, fa_eq, fa_lt64, fa_le64, fa_eq64, Int32.reduceToInt, Int64.reduceToInt, zi_ite]); omega, rfl⟩
        | exact Or.inr (⟨by (try simp only [fa_lt, fa_le, fa_eq, fa_lt64, fa_le64, fa_eq64, Int32.reduceToInt, Int64.reduceToInt, zi_ite]); omega, rfl⟩)
      exact W.zret (v := 0) hx hb hr rfl (fun t ht hW => ⟨0, rfl, hpost, ht⟩) (fun _ h => absurd h List.not_mem_nil) dX12_areHours_29
  · refine lv_if_eq (tgt := 28) hx hb dX12_areHours_8 (by decide) (fun _ => ?_) (fun c9 => absurd (by decide) c9)
    refine lv_iconst (v := 0) hx hb dX12_areHours_28 (by decide) ?_
    have hpost : ((0 ≤ p0 ∧ p0 < p1 ∧ p1 ≤ 240) ∧ (0 : Int32) = 1) ∨ ((¬ (0 ≤ p0 ∧ p0 < p1 ∧ p1 ≤ 240)) ∧ (0 : Int32) = 0) := by
      try simp only [fa_lt, fa_le, fa_eq, fa_lt64, fa_le64, fa_eq64, Int32.reduceToInt, Int64.reduceToInt, zi_ite] at b_2
      first
      | exact Or.inl ⟨by (try simp only [fa_lt, fa_le, fa_eq, fa_lt64, fa_le64, fa_eq64, Int32.reduceToInt, Int64.reduceToInt, zi_ite]); omega, rfl⟩
      | exact Or.inr (⟨by (try simp only [fa_lt, fa_le, fa_eq, fa_lt64, fa_le64, fa_eq64, Int32.reduceToInt, Int64.reduceToInt, zi_ite]); omega, rfl⟩)
    exact W.zret (v := 0) hx hb hr rfl (fun t ht hW => ⟨0, rfl, hpost, ht⟩) (fun _ h => absurd h List.not_mem_nil) dX12_areHours_29
set_option maxHeartbeats 1000000 in
set_option maxRecDepth 100000 in
theorem rt_X12_isBody (l : Launch) (dC : Nat → ClassId) (dI : Nat → Nat → Nat) (h0 : Nat) (am : Nat → Nat) (p0 : Int32) : Met l yX12_isBody wsX12_isBody ({ frames := 0, cells := 0, slots := 0, locals := 0 }) (va_Pc [.ref h0, .int p0] (fun U => va_P (dC, dI) vwCl [(h0, .inr (12, [.int 0, .int 0, .ref (am 2), .ref (am 3), .ref (am 4), .int 0, .ref (am 6), .ref (am 7), .ref (am 8), .int 0, .ref (am 10), .ref (am 11), .ref (am 12), .ref (am 13), .ref (am 14), .ref (am 15), .int 0, .ref (am 17), .ref (am 18), .ref (am 19), .ref (am 20), .int 0, .ref (am 22), .int 0, .ref (am 24), .ref (am 25), .ref (am 26), .ref (am 27), .ref (am 28), .ref (am 29), .int 0, .ref (am 31), .ref (am 32), .ref (am 33), .int 0, .ref (am 35), .int 0, .ref (am 37), .ref (am 38), .ref (am 39), .ref (am 40), .ref (am 41), .ref (am 42), .ref (am 43), .int 0, .ref (am 45), .ref (am 46), .ref (am 47), .int 0, .ref (am 49), .int 0, .ref (am 51), .int 0, .ref (am 53), .ref (am 54), .int 1, .int 0, .ref (am 57), .long 0, .ref (am 59), .ref (am 60), .long 0, .int 0, .int 0, .int 0, .int 0, .int 0, .int 0, .ref (am 68), .int 0, .int 0, .ref (am 71), .ref (am 72), .ref (am 73), .ref (am 74), .ref (am 75), .ref (am 76), .ref (am 77), .ref (am 78)]))] U.heap ∧ va_K (dC, dI) vwCl [] U)) (vp_Si (fun r : Int32 => r = 0)) 0 0 (fun _ => False) := by
  refine Met.ofW (cc := cX12_isBody) (maxL := 2) (ret := (some .boolean)) (by decide) rfl ?_
  intro p e s m args below meth c s₁ B hml hv
  obtain ⟨rfl, hP, hK⟩ := hv
  have hx := B.exec
  have hb := B.bytes
  have hr := B.returns
  have hts := atoms_spec (ws := wsX12_isBody) B.pre
  have hown : s.vm.findClass RX12 = some m.cls := findClass_of_methodNamed B.named
  have hlocks := B.notSynchronized
  have hl := lv_entry ([.ref h0, .int p0]) (n := 2) (Nat.le_of_ble_eq_true rfl)
  rw [lg_entry_eq]
  generalize (lg_sl ([.ref h0, .int p0]) ++ List.replicate (2 - (lg_sl ([.ref h0, .int p0])).length) Slot.unset).toArray = ls at hl ⊢
  have hl : lv_has ls 2 [(0, .ref h0), (1, .int p0)] := hl
  refine lv_iload_n hx hb dX12_isBody_0 rfl (lv_at hl 1 rfl) ?_
  refine lv_if_lt (tgt := 16) hx hb dX12_isBody_1 (by decide) (fun c_1 => ?_) (fun c_1 => ?_)
  · refine lv_iconst (v := 0) hx hb dX12_isBody_16 (by decide) ?_
    exact W.zret (v := 0) hx hb hr rfl (fun t ht hW => ⟨0, rfl, rfl, ht⟩) (fun _ h => absurd h List.not_mem_nil) dX12_isBody_17
  · refine lv_iload_n hx hb dX12_isBody_4 rfl (lv_at hl 1 rfl) ?_
    refine lv_aload_n hx hb dX12_isBody_5 rfl (lv_at hl 0 rfl) ?_
    refine va_get (D := (dC, dI)) (ci := 12) (v := .int 0) (C := RX12) (T := TX12) (N := 79) hx hb hts (by decide +kernel) hown hK hP 0 rfl rfl 16 (by decide) (hts (.fieldLink RX12 190 "RedTentModel" "bodies" "I") (by decide +kernel)) (fun _ h9 => h9) rfl dX12_isBody_6 ?_
    refine lv_icmp_ge (tgt := 16) hx hb dX12_isBody_9 (by decide) (fun _ => ?_) (fun c9 => absurd (by (try simp only [fa_lt, fa_le, fa_eq, fa_lt64, fa_le64, fa_eq64, Int32.reduceToInt, Int64.reduceToInt, zi_ite] at c_1 ⊢) <;> omega) c9)
    refine lv_iconst (v := 0) hx hb dX12_isBody_16 (by decide) ?_
    exact W.zret (v := 0) hx hb hr rfl (fun t ht hW => ⟨0, rfl, rfl, ht⟩) (fun _ h => absurd h List.not_mem_nil) dX12_isBody_17
set_option maxHeartbeats 1000000 in
set_option maxRecDepth 100000 in
theorem rt_X12_isCall (l : Launch) (dC : Nat → ClassId) (dI : Nat → Nat → Nat) (h0 : Nat) (am : Nat → Nat) (p0 : Int32) : Met l yX12_isCall wsX12_isCall ({ frames := 0, cells := 0, slots := 0, locals := 0 }) (va_Pc [.ref h0, .int p0] (fun U => va_P (dC, dI) vwCl [(h0, .inr (12, [.int 0, .int 0, .ref (am 2), .ref (am 3), .ref (am 4), .int 0, .ref (am 6), .ref (am 7), .ref (am 8), .int 0, .ref (am 10), .ref (am 11), .ref (am 12), .ref (am 13), .ref (am 14), .ref (am 15), .int 0, .ref (am 17), .ref (am 18), .ref (am 19), .ref (am 20), .int 0, .ref (am 22), .int 0, .ref (am 24), .ref (am 25), .ref (am 26), .ref (am 27), .ref (am 28), .ref (am 29), .int 0, .ref (am 31), .ref (am 32), .ref (am 33), .int 0, .ref (am 35), .int 0, .ref (am 37), .ref (am 38), .ref (am 39), .ref (am 40), .ref (am 41), .ref (am 42), .ref (am 43), .int 0, .ref (am 45), .ref (am 46), .ref (am 47), .int 0, .ref (am 49), .int 0, .ref (am 51), .int 0, .ref (am 53), .ref (am 54), .int 1, .int 0, .ref (am 57), .long 0, .ref (am 59), .ref (am 60), .long 0, .int 0, .int 0, .int 0, .int 0, .int 0, .int 0, .ref (am 68), .int 0, .int 0, .ref (am 71), .ref (am 72), .ref (am 73), .ref (am 74), .ref (am 75), .ref (am 76), .ref (am 77), .ref (am 78)]))] U.heap ∧ va_K (dC, dI) vwCl [] U)) (vp_Si (fun r : Int32 => r = 0)) 0 0 (fun _ => False) := by
  refine Met.ofW (cc := cX12_isCall) (maxL := 2) (ret := (some .boolean)) (by decide) rfl ?_
  intro p e s m args below meth c s₁ B hml hv
  obtain ⟨rfl, hP, hK⟩ := hv
  have hx := B.exec
  have hb := B.bytes
  have hr := B.returns
  have hts := atoms_spec (ws := wsX12_isCall) B.pre
  have hown : s.vm.findClass RX12 = some m.cls := findClass_of_methodNamed B.named
  have hlocks := B.notSynchronized
  have hl := lv_entry ([.ref h0, .int p0]) (n := 2) (Nat.le_of_ble_eq_true rfl)
  rw [lg_entry_eq]
  generalize (lg_sl ([.ref h0, .int p0]) ++ List.replicate (2 - (lg_sl ([.ref h0, .int p0])).length) Slot.unset).toArray = ls at hl ⊢
  have hl : lv_has ls 2 [(0, .ref h0), (1, .int p0)] := hl
  refine lv_iload_n hx hb dX12_isCall_0 rfl (lv_at hl 1 rfl) ?_
  refine lv_if_lt (tgt := 16) hx hb dX12_isCall_1 (by decide) (fun c_1 => ?_) (fun c_1 => ?_)
  · refine lv_iconst (v := 0) hx hb dX12_isCall_16 (by decide) ?_
    exact W.zret (v := 0) hx hb hr rfl (fun t ht hW => ⟨0, rfl, rfl, ht⟩) (fun _ h => absurd h List.not_mem_nil) dX12_isCall_17
  · refine lv_iload_n hx hb dX12_isCall_4 rfl (lv_at hl 1 rfl) ?_
    refine lv_aload_n hx hb dX12_isCall_5 rfl (lv_at hl 0 rfl) ?_
    refine va_get (D := (dC, dI)) (ci := 12) (v := .int 0) (C := RX12) (T := TX12) (N := 79) hx hb hts (by decide +kernel) hown hK hP 0 rfl rfl 30 (by decide) (hts (.fieldLink RX12 252 "RedTentModel" "calls" "I") (by decide +kernel)) (fun _ h9 => h9) rfl dX12_isCall_6 ?_
    refine lv_icmp_ge (tgt := 16) hx hb dX12_isCall_9 (by decide) (fun _ => ?_) (fun c9 => absurd (by (try simp only [fa_lt, fa_le, fa_eq, fa_lt64, fa_le64, fa_eq64, Int32.reduceToInt, Int64.reduceToInt, zi_ite] at c_1 ⊢) <;> omega) c9)
    refine lv_iconst (v := 0) hx hb dX12_isCall_16 (by decide) ?_
    exact W.zret (v := 0) hx hb hr rfl (fun t ht hW => ⟨0, rfl, rfl, ht⟩) (fun _ h => absurd h List.not_mem_nil) dX12_isCall_17
set_option maxHeartbeats 1000000 in
set_option maxRecDepth 100000 in
theorem rt_X12_isStory (l : Launch) (dC : Nat → ClassId) (dI : Nat → Nat → Nat) (h0 : Nat) (am : Nat → Nat) (p0 : Int32) : Met l yX12_isStory wsX12_isStory ({ frames := 0, cells := 0, slots := 0, locals := 0 }) (va_Pc [.ref h0, .int p0] (fun U => va_P (dC, dI) vwCl [(h0, .inr (12, [.int 0, .int 0, .ref (am 2), .ref (am 3), .ref (am 4), .int 0, .ref (am 6), .ref (am 7), .ref (am 8), .int 0, .ref (am 10), .ref (am 11), .ref (am 12), .ref (am 13), .ref (am 14), .ref (am 15), .int 0, .ref (am 17), .ref (am 18), .ref (am 19), .ref (am 20), .int 0, .ref (am 22), .int 0, .ref (am 24), .ref (am 25), .ref (am 26), .ref (am 27), .ref (am 28), .ref (am 29), .int 0, .ref (am 31), .ref (am 32), .ref (am 33), .int 0, .ref (am 35), .int 0, .ref (am 37), .ref (am 38), .ref (am 39), .ref (am 40), .ref (am 41), .ref (am 42), .ref (am 43), .int 0, .ref (am 45), .ref (am 46), .ref (am 47), .int 0, .ref (am 49), .int 0, .ref (am 51), .int 0, .ref (am 53), .ref (am 54), .int 1, .int 0, .ref (am 57), .long 0, .ref (am 59), .ref (am 60), .long 0, .int 0, .int 0, .int 0, .int 0, .int 0, .int 0, .ref (am 68), .int 0, .int 0, .ref (am 71), .ref (am 72), .ref (am 73), .ref (am 74), .ref (am 75), .ref (am 76), .ref (am 77), .ref (am 78)]))] U.heap ∧ va_K (dC, dI) vwCl [] U)) (vp_Si (fun r : Int32 => r = 0)) 0 0 (fun _ => False) := by
  refine Met.ofW (cc := cX12_isStory) (maxL := 2) (ret := (some .boolean)) (by decide) rfl ?_
  intro p e s m args below meth c s₁ B hml hv
  obtain ⟨rfl, hP, hK⟩ := hv
  have hx := B.exec
  have hb := B.bytes
  have hr := B.returns
  have hts := atoms_spec (ws := wsX12_isStory) B.pre
  have hown : s.vm.findClass RX12 = some m.cls := findClass_of_methodNamed B.named
  have hlocks := B.notSynchronized
  have hl := lv_entry ([.ref h0, .int p0]) (n := 2) (Nat.le_of_ble_eq_true rfl)
  rw [lg_entry_eq]
  generalize (lg_sl ([.ref h0, .int p0]) ++ List.replicate (2 - (lg_sl ([.ref h0, .int p0])).length) Slot.unset).toArray = ls at hl ⊢
  have hl : lv_has ls 2 [(0, .ref h0), (1, .int p0)] := hl
  refine lv_iload_n hx hb dX12_isStory_0 rfl (lv_at hl 1 rfl) ?_
  refine lv_if_lt (tgt := 16) hx hb dX12_isStory_1 (by decide) (fun c_1 => ?_) (fun c_1 => ?_)
  · refine lv_iconst (v := 0) hx hb dX12_isStory_16 (by decide) ?_
    exact W.zret (v := 0) hx hb hr rfl (fun t ht hW => ⟨0, rfl, rfl, ht⟩) (fun _ h => absurd h List.not_mem_nil) dX12_isStory_17
  · refine lv_iload_n hx hb dX12_isStory_4 rfl (lv_at hl 1 rfl) ?_
    refine lv_aload_n hx hb dX12_isStory_5 rfl (lv_at hl 0 rfl) ?_
    refine va_get (D := (dC, dI)) (ci := 12) (v := .int 0) (C := RX12) (T := TX12) (N := 79) hx hb hts (by decide +kernel) hown hK hP 0 rfl rfl 48 (by decide) (hts (.fieldLink RX12 440 "RedTentModel" "stories" "I") (by decide +kernel)) (fun _ h9 => h9) rfl dX12_isStory_6 ?_
    refine lv_icmp_ge (tgt := 16) hx hb dX12_isStory_9 (by decide) (fun _ => ?_) (fun c9 => absurd (by (try simp only [fa_lt, fa_le, fa_eq, fa_lt64, fa_le64, fa_eq64, Int32.reduceToInt, Int64.reduceToInt, zi_ite] at c_1 ⊢) <;> omega) c9)
    refine lv_iconst (v := 0) hx hb dX12_isStory_16 (by decide) ?_
    exact W.zret (v := 0) hx hb hr rfl (fun t ht hW => ⟨0, rfl, rfl, ht⟩) (fun _ h => absurd h List.not_mem_nil) dX12_isStory_17
set_option maxHeartbeats 1000000 in
set_option maxRecDepth 100000 in
theorem rt_X12_isSeeker (l : Launch) (dC : Nat → ClassId) (dI : Nat → Nat → Nat) (h0 : Nat) (am : Nat → Nat) (p0 : Int32) : Met l yX12_isSeeker wsX12_isSeeker ({ frames := 1, cells := 0, slots := 0, locals := 21 }) (va_Pc [.ref h0, .int p0] (fun U => va_P (dC, dI) vwCl [(h0, .inr (12, [.int 0, .int 0, .ref (am 2), .ref (am 3), .ref (am 4), .int 0, .ref (am 6), .ref (am 7), .ref (am 8), .int 0, .ref (am 10), .ref (am 11), .ref (am 12), .ref (am 13), .ref (am 14), .ref (am 15), .int 0, .ref (am 17), .ref (am 18), .ref (am 19), .ref (am 20), .int 0, .ref (am 22), .int 0, .ref (am 24), .ref (am 25), .ref (am 26), .ref (am 27), .ref (am 28), .ref (am 29), .int 0, .ref (am 31), .ref (am 32), .ref (am 33), .int 0, .ref (am 35), .int 0, .ref (am 37), .ref (am 38), .ref (am 39), .ref (am 40), .ref (am 41), .ref (am 42), .ref (am 43), .int 0, .ref (am 45), .ref (am 46), .ref (am 47), .int 0, .ref (am 49), .int 0, .ref (am 51), .int 0, .ref (am 53), .ref (am 54), .int 1, .int 0, .ref (am 57), .long 0, .ref (am 59), .ref (am 60), .long 0, .int 0, .int 0, .int 0, .int 0, .int 0, .int 0, .ref (am 68), .int 0, .int 0, .ref (am 71), .ref (am 72), .ref (am 73), .ref (am 74), .ref (am 75), .ref (am 76), .ref (am 77), .ref (am 78)]))] U.heap ∧ va_K (dC, dI) vwCl [] U)) (vp_Si (fun r : Int32 => r = 0)) 0 0 (fun _ => False) := by
  refine Met.ofW (cc := cX12_isSeeker) (maxL := 2) (ret := (some .boolean)) (by decide) rfl ?_
  intro p e s m args below meth c s₁ B hml hv
  obtain ⟨rfl, hP, hK⟩ := hv
  have hx := B.exec
  have hb := B.bytes
  have hr := B.returns
  have hts := atoms_spec (ws := wsX12_isSeeker) B.pre
  have hown : s.vm.findClass RX12 = some m.cls := findClass_of_methodNamed B.named
  have hlocks := B.notSynchronized
  have hl := lv_entry ([.ref h0, .int p0]) (n := 2) (Nat.le_of_ble_eq_true rfl)
  rw [lg_entry_eq]
  generalize (lg_sl ([.ref h0, .int p0]) ++ List.replicate (2 - (lg_sl ([.ref h0, .int p0])).length) Slot.unset).toArray = ls at hl ⊢
  have hl : lv_has ls 2 [(0, .ref h0), (1, .int p0)] := hl
  refine lv_aload_n hx hb dX12_isSeeker_0 rfl (lv_at hl 0 rfl) ?_
  refine lv_iload_n hx hb dX12_isSeeker_1 rfl (lv_at hl 1 rfl) ?_
  have hPc := hP.sub (ws' := [(h0, .inr (12, [.int 0, .int 0, .ref (am 2), .ref (am 3), .ref (am 4), .int 0, .ref (am 6), .ref (am 7), .ref (am 8), .int 0, .ref (am 10), .ref (am 11), .ref (am 12), .ref (am 13), .ref (am 14), .ref (am 15), .int 0, .ref (am 17), .ref (am 18), .ref (am 19), .ref (am 20), .int 0, .ref (am 22), .int 0, .ref (am 24), .ref (am 25), .ref (am 26), .ref (am 27), .ref (am 28), .ref (am 29), .int 0, .ref (am 31), .ref (am 32), .ref (am 33), .int 0, .ref (am 35), .int 0, .ref (am 37), .ref (am 38), .ref (am 39), .ref (am 40), .ref (am 41), .ref (am 42), .ref (am 43), .int 0, .ref (am 45), .ref (am 46), .ref (am 47), .int 0, .ref (am 49), .int 0, .ref (am 51), .int 0, .ref (am 53), .ref (am 54), .int 1, .int 0, .ref (am 57), .long 0, .ref (am 59), .ref (am 60), .long 0, .int 0, .int 0, .int 0, .int 0, .int 0, .int 0, .ref (am 68), .int 0, .int 0, .ref (am 71), .ref (am 72), .ref (am 73), .ref (am 74), .ref (am 75), .ref (am 76), .ref (am 77), .ref (am 78)]))]) [0] rfl
  have hKc := hK.sub (tys' := []) [] rfl
  refine vp_callSi (va_Run.run (va_runV (As := [.int p0]) (rest := []) ⟨hx, hb, hml, hown, hts⟩ (rt_X12_isBody l dC dI h0 am p0) (cwV 1 hts gX12_isSeeker_X12_isBody rfl rfl rfl (by decide +kernel) ⟨Nat.le_of_ble_eq_true rfl, Nat.le_of_ble_eq_true rfl⟩) ⟨fun a U g mk q => by obtain ⟨q0, qP, qK⟩ := q; exact ⟨q0, qP, va_K.moved (u := U) (U := U.calling g mk a) (Vm.Alike.refl U.vm) qK⟩, va_recv hKc hPc (ci := 12) (q0 := 0) rfl rfl, fun U hU hW => ⟨rfl, by rw [hU]; exact hPc, va_K.moved hW.alike hKc⟩⟩ rfl rfl hl.1 rfl (lv_room (Nat.le_of_ble_eq_true rfl)) dX12_isSeeker_2 ⟨by decide +kernel, by decide +kernel⟩)) (fun r_1 hr_1 => ?_)
  obtain rfl := hr_1
  refine lv_if_eq (tgt := 32) hx hb dX12_isSeeker_5 (by decide) (fun _ => ?_) (fun c9 => absurd (by decide) c9)
  refine lv_iconst (v := 0) hx hb dX12_isSeeker_32 (by decide) ?_
  exact W.zret (v := 0) hx hb hr rfl (fun t ht hW => ⟨0, rfl, rfl, ht⟩) (fun _ h => absurd h List.not_mem_nil) dX12_isSeeker_33
set_option maxHeartbeats 1000000 in
set_option maxRecDepth 100000 in
theorem rt_X12_bodyTold (l : Launch) (dC : Nat → ClassId) (dI : Nat → Nat → Nat) (h0 : Nat) (am : Nat → Nat) (p0 p1 : Int32) : Met l yX12_bodyTold wsX12_bodyTold ({ frames := 1, cells := 0, slots := 0, locals := 21 }) (va_Pc [.ref h0, .int p0, .int p1] (fun U => va_P (dC, dI) vwCl [(h0, .inr (12, [.int 0, .int 0, .ref (am 2), .ref (am 3), .ref (am 4), .int 0, .ref (am 6), .ref (am 7), .ref (am 8), .int 0, .ref (am 10), .ref (am 11), .ref (am 12), .ref (am 13), .ref (am 14), .ref (am 15), .int 0, .ref (am 17), .ref (am 18), .ref (am 19), .ref (am 20), .int 0, .ref (am 22), .int 0, .ref (am 24), .ref (am 25), .ref (am 26), .ref (am 27), .ref (am 28), .ref (am 29), .int 0, .ref (am 31), .ref (am 32), .ref (am 33), .int 0, .ref (am 35), .int 0, .ref (am 37), .ref (am 38), .ref (am 39), .ref (am 40), .ref (am 41), .ref (am 42), .ref (am 43), .int 0, .ref (am 45), .ref (am 46), .ref (am 47), .int 0, .ref (am 49), .int 0, .ref (am 51), .int 0, .ref (am 53), .ref (am 54), .int 1, .int 0, .ref (am 57), .long 0, .ref (am 59), .ref (am 60), .long 0, .int 0, .int 0, .int 0, .int 0, .int 0, .int 0, .ref (am 68), .int 0, .int 0, .ref (am 71), .ref (am 72), .ref (am 73), .ref (am 74), .ref (am 75), .ref (am 76), .ref (am 77), .ref (am 78)]))] U.heap ∧ va_K (dC, dI) vwCl [] U)) (vp_Si (fun r : Int32 => r = (-2))) 0 0 (fun _ => False) := by
  refine Met.ofW (cc := cX12_bodyTold) (maxL := 3) (ret := (some .int)) (by decide) rfl ?_
  intro p e s m args below meth c s₁ B hml hv
  obtain ⟨rfl, hP, hK⟩ := hv
  have hx := B.exec
  have hb := B.bytes
  have hr := B.returns
  have hts := atoms_spec (ws := wsX12_bodyTold) B.pre
  have hown : s.vm.findClass RX12 = some m.cls := findClass_of_methodNamed B.named
  have hlocks := B.notSynchronized
  have hl := lv_entry ([.ref h0, .int p0, .int p1]) (n := 3) (Nat.le_of_ble_eq_true rfl)
  rw [lg_entry_eq]
  generalize (lg_sl ([.ref h0, .int p0, .int p1]) ++ List.replicate (3 - (lg_sl ([.ref h0, .int p0, .int p1])).length) Slot.unset).toArray = ls at hl ⊢
  have hl : lv_has ls 3 [(0, .ref h0), (1, .int p0), (2, .int p1)] := hl
  refine lv_aload_n hx hb dX12_bodyTold_0 rfl (lv_at hl 0 rfl) ?_
  refine lv_iload_n hx hb dX12_bodyTold_1 rfl (lv_at hl 1 rfl) ?_
  have hPc := hP.sub (ws' := [(h0, .inr (12, [.int 0, .int 0, .ref (am 2), .ref (am 3), .ref (am 4), .int 0, .ref (am 6), .ref (am 7), .ref (am 8), .int 0, .ref (am 10), .ref (am 11), .ref (am 12), .ref (am 13), .ref (am 14), .ref (am 15), .int 0, .ref (am 17), .ref (am 18), .ref (am 19), .ref (am 20), .int 0, .ref (am 22), .int 0, .ref (am 24), .ref (am 25), .ref (am 26), .ref (am 27), .ref (am 28), .ref (am 29), .int 0, .ref (am 31), .ref (am 32), .ref (am 33), .int 0, .ref (am 35), .int 0, .ref (am 37), .ref (am 38), .ref (am 39), .ref (am 40), .ref (am 41), .ref (am 42), .ref (am 43), .int 0, .ref (am 45), .ref (am 46), .ref (am 47), .int 0, .ref (am 49), .int 0, .ref (am 51), .int 0, .ref (am 53), .ref (am 54), .int 1, .int 0, .ref (am 57), .long 0, .ref (am 59), .ref (am 60), .long 0, .int 0, .int 0, .int 0, .int 0, .int 0, .int 0, .ref (am 68), .int 0, .int 0, .ref (am 71), .ref (am 72), .ref (am 73), .ref (am 74), .ref (am 75), .ref (am 76), .ref (am 77), .ref (am 78)]))]) [0] rfl
  have hKc := hK.sub (tys' := []) [] rfl
  refine vp_callSi (va_Run.run (va_runV (As := [.int p0]) (rest := []) ⟨hx, hb, hml, hown, hts⟩ (rt_X12_isBody l dC dI h0 am p0) (cwV 1 hts gX12_bodyTold_X12_isBody rfl rfl rfl (by decide +kernel) ⟨Nat.le_of_ble_eq_true rfl, Nat.le_of_ble_eq_true rfl⟩) ⟨fun a U g mk q => by obtain ⟨q0, qP, qK⟩ := q; exact ⟨q0, qP, va_K.moved (u := U) (U := U.calling g mk a) (Vm.Alike.refl U.vm) qK⟩, va_recv hKc hPc (ci := 12) (q0 := 0) rfl rfl, fun U hU hW => ⟨rfl, by rw [hU]; exact hPc, va_K.moved hW.alike hKc⟩⟩ rfl rfl hl.1 rfl (lv_room (Nat.le_of_ble_eq_true rfl)) dX12_bodyTold_2 ⟨by decide +kernel, by decide +kernel⟩)) (fun r_1 hr_1 => ?_)
  obtain rfl := hr_1
  refine lv_if_ne (tgt := 11) hx hb dX12_bodyTold_5 (by decide) (fun c9 => absurd (by decide) c9) (fun _ => ?_)
  refine lv_bipush (v := (-2)) hx hb dX12_bodyTold_8 (by decide) ?_
  exact W.iret (v := (-2)) hx hb hr (fun t ht hW => ⟨(-2), rfl, rfl, ht⟩) (fun _ h => absurd h List.not_mem_nil) dX12_bodyTold_10
set_option maxHeartbeats 1000000 in
set_option maxRecDepth 100000 in
theorem rt_X12_patch (l : Launch) (dC : Nat → ClassId) (dI : Nat → Nat → Nat) (h0 : Nat) (am : Nat → Nat) (p0 p1 p2 : Int32) : Met l yX12_patch wsX12_patch ({ frames := 1, cells := 0, slots := 0, locals := 21 }) (va_Pc [.ref h0, .int p0, .int p1, .int p2] (fun U => va_P (dC, dI) vwCl [(h0, .inr (12, [.int 0, .int 0, .ref (am 2), .ref (am 3), .ref (am 4), .int 0, .ref (am 6), .ref (am 7), .ref (am 8), .int 0, .ref (am 10), .ref (am 11), .ref (am 12), .ref (am 13), .ref (am 14), .ref (am 15), .int 0, .ref (am 17), .ref (am 18), .ref (am 19), .ref (am 20), .int 0, .ref (am 22), .int 0, .ref (am 24), .ref (am 25), .ref (am 26), .ref (am 27), .ref (am 28), .ref (am 29), .int 0, .ref (am 31), .ref (am 32), .ref (am 33), .int 0, .ref (am 35), .int 0, .ref (am 37), .ref (am 38), .ref (am 39), .ref (am 40), .ref (am 41), .ref (am 42), .ref (am 43), .int 0, .ref (am 45), .ref (am 46), .ref (am 47), .int 0, .ref (am 49), .int 0, .ref (am 51), .int 0, .ref (am 53), .ref (am 54), .int 1, .int 0, .ref (am 57), .long 0, .ref (am 59), .ref (am 60), .long 0, .int 0, .int 0, .int 0, .int 0, .int 0, .int 0, .ref (am 68), .int 0, .int 0, .ref (am 71), .ref (am 72), .ref (am 73), .ref (am 74), .ref (am 75), .ref (am 76), .ref (am 77), .ref (am 78)]))] U.heap ∧ va_K (dC, dI) vwCl [] U)) (vp_Sl (fun r : Int64 => r = (-4611686018427387904))) 0 0 (fun _ => False) := by
  refine Met.ofW (cc := cX12_patch) (maxL := 4) (ret := (some .long)) (by decide) rfl ?_
  intro p e s m args below meth c s₁ B hml hv
  obtain ⟨rfl, hP, hK⟩ := hv
  have hx := B.exec
  have hb := B.bytes
  have hr := B.returns
  have hts := atoms_spec (ws := wsX12_patch) B.pre
  have hown : s.vm.findClass RX12 = some m.cls := findClass_of_methodNamed B.named
  have hlocks := B.notSynchronized
  have hl := lv_entry ([.ref h0, .int p0, .int p1, .int p2]) (n := 4) (Nat.le_of_ble_eq_true rfl)
  rw [lg_entry_eq]
  generalize (lg_sl ([.ref h0, .int p0, .int p1, .int p2]) ++ List.replicate (4 - (lg_sl ([.ref h0, .int p0, .int p1, .int p2])).length) Slot.unset).toArray = ls at hl ⊢
  have hl : lv_has ls 4 [(0, .ref h0), (1, .int p0), (2, .int p1), (3, .int p2)] := hl
  refine lv_aload_n hx hb dX12_patch_0 rfl (lv_at hl 0 rfl) ?_
  refine lv_iload_n hx hb dX12_patch_1 rfl (lv_at hl 1 rfl) ?_
  have hPc := hP.sub (ws' := [(h0, .inr (12, [.int 0, .int 0, .ref (am 2), .ref (am 3), .ref (am 4), .int 0, .ref (am 6), .ref (am 7), .ref (am 8), .int 0, .ref (am 10), .ref (am 11), .ref (am 12), .ref (am 13), .ref (am 14), .ref (am 15), .int 0, .ref (am 17), .ref (am 18), .ref (am 19), .ref (am 20), .int 0, .ref (am 22), .int 0, .ref (am 24), .ref (am 25), .ref (am 26), .ref (am 27), .ref (am 28), .ref (am 29), .int 0, .ref (am 31), .ref (am 32), .ref (am 33), .int 0, .ref (am 35), .int 0, .ref (am 37), .ref (am 38), .ref (am 39), .ref (am 40), .ref (am 41), .ref (am 42), .ref (am 43), .int 0, .ref (am 45), .ref (am 46), .ref (am 47), .int 0, .ref (am 49), .int 0, .ref (am 51), .int 0, .ref (am 53), .ref (am 54), .int 1, .int 0, .ref (am 57), .long 0, .ref (am 59), .ref (am 60), .long 0, .int 0, .int 0, .int 0, .int 0, .int 0, .int 0, .ref (am 68), .int 0, .int 0, .ref (am 71), .ref (am 72), .ref (am 73), .ref (am 74), .ref (am 75), .ref (am 76), .ref (am 77), .ref (am 78)]))]) [0] rfl
  have hKc := hK.sub (tys' := []) [] rfl
  refine vp_callSi (va_Run.run (va_runV (As := [.int p0]) (rest := []) ⟨hx, hb, hml, hown, hts⟩ (rt_X12_isBody l dC dI h0 am p0) (cwV 1 hts gX12_patch_X12_isBody rfl rfl rfl (by decide +kernel) ⟨Nat.le_of_ble_eq_true rfl, Nat.le_of_ble_eq_true rfl⟩) ⟨fun a U g mk q => by obtain ⟨q0, qP, qK⟩ := q; exact ⟨q0, qP, va_K.moved (u := U) (U := U.calling g mk a) (Vm.Alike.refl U.vm) qK⟩, va_recv hKc hPc (ci := 12) (q0 := 0) rfl rfl, fun U hU hW => ⟨rfl, by rw [hU]; exact hPc, va_K.moved hW.alike hKc⟩⟩ rfl rfl hl.1 rfl (lv_room (Nat.le_of_ble_eq_true rfl)) dX12_patch_2 ⟨by decide +kernel, by decide +kernel⟩)) (fun r_1 hr_1 => ?_)
  obtain rfl := hr_1
  refine lv_if_eq (tgt := 48) hx hb dX12_patch_5 (by decide) (fun _ => ?_) (fun c9 => absurd (by decide) c9)
  refine lv_ldc2 (v := (-4611686018427387904)) hx hb hown (hts (.constantLong RX12 236 (-4611686018427387904)) (by decide +kernel)) dX12_patch_48 ?_
  exact W.lret (v := (-4611686018427387904)) hx hb hr (fun t ht hW => ⟨(-4611686018427387904), rfl, rfl, ht⟩) (fun _ h => absurd h List.not_mem_nil) dX12_patch_51
set_option maxHeartbeats 1000000 in
set_option maxRecDepth 100000 in
theorem rt_X12_share (l : Launch) (dC : Nat → ClassId) (dI : Nat → Nat → Nat) (h0 : Nat) (am : Nat → Nat) (p0 p1 p2 : Int32) : Met l yX12_share wsX12_share ({ frames := 1, cells := 0, slots := 0, locals := 21 }) (va_Pc [.ref h0, .int p0, .int p1, .int p2] (fun U => va_P (dC, dI) vwCl [(h0, .inr (12, [.int 0, .int 0, .ref (am 2), .ref (am 3), .ref (am 4), .int 0, .ref (am 6), .ref (am 7), .ref (am 8), .int 0, .ref (am 10), .ref (am 11), .ref (am 12), .ref (am 13), .ref (am 14), .ref (am 15), .int 0, .ref (am 17), .ref (am 18), .ref (am 19), .ref (am 20), .int 0, .ref (am 22), .int 0, .ref (am 24), .ref (am 25), .ref (am 26), .ref (am 27), .ref (am 28), .ref (am 29), .int 0, .ref (am 31), .ref (am 32), .ref (am 33), .int 0, .ref (am 35), .int 0, .ref (am 37), .ref (am 38), .ref (am 39), .ref (am 40), .ref (am 41), .ref (am 42), .ref (am 43), .int 0, .ref (am 45), .ref (am 46), .ref (am 47), .int 0, .ref (am 49), .int 0, .ref (am 51), .int 0, .ref (am 53), .ref (am 54), .int 1, .int 0, .ref (am 57), .long 0, .ref (am 59), .ref (am 60), .long 0, .int 0, .int 0, .int 0, .int 0, .int 0, .int 0, .ref (am 68), .int 0, .int 0, .ref (am 71), .ref (am 72), .ref (am 73), .ref (am 74), .ref (am 75), .ref (am 76), .ref (am 77), .ref (am 78)]))] U.heap ∧ va_K (dC, dI) vwCl [] U)) (vp_Sl (fun r : Int64 => r = (-4611686018427387904))) 0 0 (fun _ => False) := by
  refine Met.ofW (cc := cX12_share) (maxL := 6) (ret := (some .long)) (by decide) rfl ?_
  intro p e s m args below meth c s₁ B hml hv
  obtain ⟨rfl, hP, hK⟩ := hv
  have hx := B.exec
  have hb := B.bytes
  have hr := B.returns
  have hts := atoms_spec (ws := wsX12_share) B.pre
  have hown : s.vm.findClass RX12 = some m.cls := findClass_of_methodNamed B.named
  have hlocks := B.notSynchronized
  have hl := lv_entry ([.ref h0, .int p0, .int p1, .int p2]) (n := 6) (Nat.le_of_ble_eq_true rfl)
  rw [lg_entry_eq]
  generalize (lg_sl ([.ref h0, .int p0, .int p1, .int p2]) ++ List.replicate (6 - (lg_sl ([.ref h0, .int p0, .int p1, .int p2])).length) Slot.unset).toArray = ls at hl ⊢
  have hl : lv_has ls 6 [(0, .ref h0), (1, .int p0), (2, .int p1), (3, .int p2)] := hl
  refine lv_aload_n hx hb dX12_share_0 rfl (lv_at hl 0 rfl) ?_
  refine lv_iload_n hx hb dX12_share_1 rfl (lv_at hl 1 rfl) ?_
  have hPc := hP.sub (ws' := [(h0, .inr (12, [.int 0, .int 0, .ref (am 2), .ref (am 3), .ref (am 4), .int 0, .ref (am 6), .ref (am 7), .ref (am 8), .int 0, .ref (am 10), .ref (am 11), .ref (am 12), .ref (am 13), .ref (am 14), .ref (am 15), .int 0, .ref (am 17), .ref (am 18), .ref (am 19), .ref (am 20), .int 0, .ref (am 22), .int 0, .ref (am 24), .ref (am 25), .ref (am 26), .ref (am 27), .ref (am 28), .ref (am 29), .int 0, .ref (am 31), .ref (am 32), .ref (am 33), .int 0, .ref (am 35), .int 0, .ref (am 37), .ref (am 38), .ref (am 39), .ref (am 40), .ref (am 41), .ref (am 42), .ref (am 43), .int 0, .ref (am 45), .ref (am 46), .ref (am 47), .int 0, .ref (am 49), .int 0, .ref (am 51), .int 0, .ref (am 53), .ref (am 54), .int 1, .int 0, .ref (am 57), .long 0, .ref (am 59), .ref (am 60), .long 0, .int 0, .int 0, .int 0, .int 0, .int 0, .int 0, .ref (am 68), .int 0, .int 0, .ref (am 71), .ref (am 72), .ref (am 73), .ref (am 74), .ref (am 75), .ref (am 76), .ref (am 77), .ref (am 78)]))]) [0] rfl
  have hKc := hK.sub (tys' := []) [] rfl
  refine vp_callSi (va_Run.run (va_runV (As := [.int p0]) (rest := []) ⟨hx, hb, hml, hown, hts⟩ (rt_X12_isBody l dC dI h0 am p0) (cwV 1 hts gX12_share_X12_isBody rfl rfl rfl (by decide +kernel) ⟨Nat.le_of_ble_eq_true rfl, Nat.le_of_ble_eq_true rfl⟩) ⟨fun a U g mk q => by obtain ⟨q0, qP, qK⟩ := q; exact ⟨q0, qP, va_K.moved (u := U) (U := U.calling g mk a) (Vm.Alike.refl U.vm) qK⟩, va_recv hKc hPc (ci := 12) (q0 := 0) rfl rfl, fun U hU hW => ⟨rfl, by rw [hU]; exact hPc, va_K.moved hW.alike hKc⟩⟩ rfl rfl hl.1 rfl (lv_room (Nat.le_of_ble_eq_true rfl)) dX12_share_2 ⟨by decide +kernel, by decide +kernel⟩)) (fun r_1 hr_1 => ?_)
  obtain rfl := hr_1
  refine lv_if_eq (tgt := 24) hx hb dX12_share_5 (by decide) (fun _ => ?_) (fun c9 => absurd (by decide) c9)
  refine lv_ldc2 (v := (-4611686018427387904)) hx hb hown (hts (.constantLong RX12 236 (-4611686018427387904)) (by decide +kernel)) dX12_share_24 ?_
  exact W.lret (v := (-4611686018427387904)) hx hb hr (fun t ht hW => ⟨(-4611686018427387904), rfl, rfl, ht⟩) (fun _ h => absurd h List.not_mem_nil) dX12_share_27
set_option maxHeartbeats 1000000 in
set_option maxRecDepth 100000 in
theorem rt_X12_parted (l : Launch) (dC : Nat → ClassId) (dI : Nat → Nat → Nat) (h0 : Nat) (am : Nat → Nat) (p0 p1 p2 p3 : Int32) : Met l yX12_parted wsX12_parted ({ frames := 1, cells := 0, slots := 0, locals := 21 }) (va_Pc [.ref h0, .int p0, .int p1, .int p2, .int p3] (fun U => va_P (dC, dI) vwCl [(h0, .inr (12, [.int 0, .int 0, .ref (am 2), .ref (am 3), .ref (am 4), .int 0, .ref (am 6), .ref (am 7), .ref (am 8), .int 0, .ref (am 10), .ref (am 11), .ref (am 12), .ref (am 13), .ref (am 14), .ref (am 15), .int 0, .ref (am 17), .ref (am 18), .ref (am 19), .ref (am 20), .int 0, .ref (am 22), .int 0, .ref (am 24), .ref (am 25), .ref (am 26), .ref (am 27), .ref (am 28), .ref (am 29), .int 0, .ref (am 31), .ref (am 32), .ref (am 33), .int 0, .ref (am 35), .int 0, .ref (am 37), .ref (am 38), .ref (am 39), .ref (am 40), .ref (am 41), .ref (am 42), .ref (am 43), .int 0, .ref (am 45), .ref (am 46), .ref (am 47), .int 0, .ref (am 49), .int 0, .ref (am 51), .int 0, .ref (am 53), .ref (am 54), .int 1, .int 0, .ref (am 57), .long 0, .ref (am 59), .ref (am 60), .long 0, .int 0, .int 0, .int 0, .int 0, .int 0, .int 0, .ref (am 68), .int 0, .int 0, .ref (am 71), .ref (am 72), .ref (am 73), .ref (am 74), .ref (am 75), .ref (am 76), .ref (am 77), .ref (am 78)]))] U.heap ∧ va_K (dC, dI) vwCl [] U)) (vp_Si (fun r : Int32 => r = (-2))) 0 0 (fun _ => False) := by
  refine Met.ofW (cc := cX12_parted) (maxL := 7) (ret := (some .int)) (by decide) rfl ?_
  intro p e s m args below meth c s₁ B hml hv
  obtain ⟨rfl, hP, hK⟩ := hv
  have hx := B.exec
  have hb := B.bytes
  have hr := B.returns
  have hts := atoms_spec (ws := wsX12_parted) B.pre
  have hown : s.vm.findClass RX12 = some m.cls := findClass_of_methodNamed B.named
  have hlocks := B.notSynchronized
  have hl := lv_entry ([.ref h0, .int p0, .int p1, .int p2, .int p3]) (n := 7) (Nat.le_of_ble_eq_true rfl)
  rw [lg_entry_eq]
  generalize (lg_sl ([.ref h0, .int p0, .int p1, .int p2, .int p3]) ++ List.replicate (7 - (lg_sl ([.ref h0, .int p0, .int p1, .int p2, .int p3])).length) Slot.unset).toArray = ls at hl ⊢
  have hl : lv_has ls 7 [(0, .ref h0), (1, .int p0), (2, .int p1), (3, .int p2), (4, .int p3)] := hl
  refine lv_aload_n hx hb dX12_parted_0 rfl (lv_at hl 0 rfl) ?_
  refine lv_iload_n hx hb dX12_parted_1 rfl (lv_at hl 1 rfl) ?_
  have hPc := hP.sub (ws' := [(h0, .inr (12, [.int 0, .int 0, .ref (am 2), .ref (am 3), .ref (am 4), .int 0, .ref (am 6), .ref (am 7), .ref (am 8), .int 0, .ref (am 10), .ref (am 11), .ref (am 12), .ref (am 13), .ref (am 14), .ref (am 15), .int 0, .ref (am 17), .ref (am 18), .ref (am 19), .ref (am 20), .int 0, .ref (am 22), .int 0, .ref (am 24), .ref (am 25), .ref (am 26), .ref (am 27), .ref (am 28), .ref (am 29), .int 0, .ref (am 31), .ref (am 32), .ref (am 33), .int 0, .ref (am 35), .int 0, .ref (am 37), .ref (am 38), .ref (am 39), .ref (am 40), .ref (am 41), .ref (am 42), .ref (am 43), .int 0, .ref (am 45), .ref (am 46), .ref (am 47), .int 0, .ref (am 49), .int 0, .ref (am 51), .int 0, .ref (am 53), .ref (am 54), .int 1, .int 0, .ref (am 57), .long 0, .ref (am 59), .ref (am 60), .long 0, .int 0, .int 0, .int 0, .int 0, .int 0, .int 0, .ref (am 68), .int 0, .int 0, .ref (am 71), .ref (am 72), .ref (am 73), .ref (am 74), .ref (am 75), .ref (am 76), .ref (am 77), .ref (am 78)]))]) [0] rfl
  have hKc := hK.sub (tys' := []) [] rfl
  refine vp_callSi (va_Run.run (va_runV (As := [.int p0]) (rest := []) ⟨hx, hb, hml, hown, hts⟩ (rt_X12_isBody l dC dI h0 am p0) (cwV 1 hts gX12_parted_X12_isBody rfl rfl rfl (by decide +kernel) ⟨Nat.le_of_ble_eq_true rfl, Nat.le_of_ble_eq_true rfl⟩) ⟨fun a U g mk q => by obtain ⟨q0, qP, qK⟩ := q; exact ⟨q0, qP, va_K.moved (u := U) (U := U.calling g mk a) (Vm.Alike.refl U.vm) qK⟩, va_recv hKc hPc (ci := 12) (q0 := 0) rfl rfl, fun U hU hW => ⟨rfl, by rw [hU]; exact hPc, va_K.moved hW.alike hKc⟩⟩ rfl rfl hl.1 rfl (lv_room (Nat.le_of_ble_eq_true rfl)) dX12_parted_2 ⟨by decide +kernel, by decide +kernel⟩)) (fun r_1 hr_1 => ?_)
  obtain rfl := hr_1
  refine lv_if_eq (tgt := 46) hx hb dX12_parted_5 (by decide) (fun _ => ?_) (fun c9 => absurd (by decide) c9)
  refine lv_iconst (v := 0) hx hb dX12_parted_46 (by decide) ?_
  refine lv_istore (lv' := [(5, .int 0), (0, .ref h0), (1, .int p0), (2, .int p1), (3, .int p2), (4, .int p3)]) hx hb dX12_parted_47 hl (by decide) rfl (fun ls hl => ?_)
  refine lv_iconst (v := 0) hx hb dX12_parted_49 (by decide) ?_
  refine lv_istore (lv' := [(6, .int 0), (5, .int 0), (0, .ref h0), (1, .int p0), (2, .int p1), (3, .int p2), (4, .int p3)]) hx hb dX12_parted_50 hl (by decide) rfl (fun ls hl => ?_)
  refine lv_iload hx hb dX12_parted_52 (lv_at hl 0 rfl) ?_
  refine lv_bipush (v := 12) hx hb dX12_parted_54 (by decide) ?_
  refine lv_icmp_ge (tgt := 95) hx hb dX12_parted_56 (by decide) (fun c9 => absurd c9 (by decide)) (fun _ => ?_)
  refine lv_iload hx hb dX12_parted_59 (lv_at hl 1 rfl) ?_
  refine lv_if_eq (tgt := 86) hx hb dX12_parted_61 (by decide) (fun _ => ?_) (fun c9 => absurd (by decide) c9)
  refine lv_iconst (v := 0) hx hb dX12_parted_86 (by decide) ?_
  refine lv_istore (lv' := [(5, .int 0), (6, .int 0), (0, .ref h0), (1, .int p0), (2, .int p1), (3, .int p2), (4, .int p3)]) hx hb dX12_parted_87 hl (by decide) rfl (fun ls hl => ?_)
  refine lv_iinc (v := 1) (lv' := [(6, .int 1), (5, .int 0), (0, .ref h0), (1, .int p0), (2, .int p1), (3, .int p2), (4, .int p3)]) hx hb dX12_parted_89 hl (k := 1) rfl (by decide) (by decide) rfl (fun ls hl => ?_)
  refine lv_goto (tgt := 52) hx hb dX12_parted_92 (by decide) ?_
  refine lv_iload hx hb dX12_parted_52 (lv_at hl 0 rfl) ?_
  refine lv_bipush (v := 12) hx hb dX12_parted_54 (by decide) ?_
  refine lv_icmp_ge (tgt := 95) hx hb dX12_parted_56 (by decide) (fun c9 => absurd c9 (by decide)) (fun _ => ?_)
  refine lv_iload hx hb dX12_parted_59 (lv_at hl 1 rfl) ?_
  refine lv_if_eq (tgt := 86) hx hb dX12_parted_61 (by decide) (fun _ => ?_) (fun c9 => absurd (by decide) c9)
  refine lv_iconst (v := 0) hx hb dX12_parted_86 (by decide) ?_
  refine lv_istore (lv' := [(5, .int 0), (6, .int 1), (0, .ref h0), (1, .int p0), (2, .int p1), (3, .int p2), (4, .int p3)]) hx hb dX12_parted_87 hl (by decide) rfl (fun ls hl => ?_)
  refine lv_iinc (v := 2) (lv' := [(6, .int 2), (5, .int 0), (0, .ref h0), (1, .int p0), (2, .int p1), (3, .int p2), (4, .int p3)]) hx hb dX12_parted_89 hl (k := 1) rfl (by decide) (by decide) rfl (fun ls hl => ?_)
  refine lv_goto (tgt := 52) hx hb dX12_parted_92 (by decide) ?_
  refine lv_iload hx hb dX12_parted_52 (lv_at hl 0 rfl) ?_
  refine lv_bipush (v := 12) hx hb dX12_parted_54 (by decide) ?_
  refine lv_icmp_ge (tgt := 95) hx hb dX12_parted_56 (by decide) (fun c9 => absurd c9 (by decide)) (fun _ => ?_)
  refine lv_iload hx hb dX12_parted_59 (lv_at hl 1 rfl) ?_
  refine lv_if_eq (tgt := 86) hx hb dX12_parted_61 (by decide) (fun _ => ?_) (fun c9 => absurd (by decide) c9)
  refine lv_iconst (v := 0) hx hb dX12_parted_86 (by decide) ?_
  refine lv_istore (lv' := [(5, .int 0), (6, .int 2), (0, .ref h0), (1, .int p0), (2, .int p1), (3, .int p2), (4, .int p3)]) hx hb dX12_parted_87 hl (by decide) rfl (fun ls hl => ?_)
  refine lv_iinc (v := 3) (lv' := [(6, .int 3), (5, .int 0), (0, .ref h0), (1, .int p0), (2, .int p1), (3, .int p2), (4, .int p3)]) hx hb dX12_parted_89 hl (k := 1) rfl (by decide) (by decide) rfl (fun ls hl => ?_)
  refine lv_goto (tgt := 52) hx hb dX12_parted_92 (by decide) ?_
  refine lv_iload hx hb dX12_parted_52 (lv_at hl 0 rfl) ?_
  refine lv_bipush (v := 12) hx hb dX12_parted_54 (by decide) ?_
  refine lv_icmp_ge (tgt := 95) hx hb dX12_parted_56 (by decide) (fun c9 => absurd c9 (by decide)) (fun _ => ?_)
  refine lv_iload hx hb dX12_parted_59 (lv_at hl 1 rfl) ?_
  refine lv_if_eq (tgt := 86) hx hb dX12_parted_61 (by decide) (fun _ => ?_) (fun c9 => absurd (by decide) c9)
  refine lv_iconst (v := 0) hx hb dX12_parted_86 (by decide) ?_
  refine lv_istore (lv' := [(5, .int 0), (6, .int 3), (0, .ref h0), (1, .int p0), (2, .int p1), (3, .int p2), (4, .int p3)]) hx hb dX12_parted_87 hl (by decide) rfl (fun ls hl => ?_)
  refine lv_iinc (v := 4) (lv' := [(6, .int 4), (5, .int 0), (0, .ref h0), (1, .int p0), (2, .int p1), (3, .int p2), (4, .int p3)]) hx hb dX12_parted_89 hl (k := 1) rfl (by decide) (by decide) rfl (fun ls hl => ?_)
  refine lv_goto (tgt := 52) hx hb dX12_parted_92 (by decide) ?_
  refine lv_iload hx hb dX12_parted_52 (lv_at hl 0 rfl) ?_
  refine lv_bipush (v := 12) hx hb dX12_parted_54 (by decide) ?_
  refine lv_icmp_ge (tgt := 95) hx hb dX12_parted_56 (by decide) (fun c9 => absurd c9 (by decide)) (fun _ => ?_)
  refine lv_iload hx hb dX12_parted_59 (lv_at hl 1 rfl) ?_
  refine lv_if_eq (tgt := 86) hx hb dX12_parted_61 (by decide) (fun _ => ?_) (fun c9 => absurd (by decide) c9)
  refine lv_iconst (v := 0) hx hb dX12_parted_86 (by decide) ?_
  refine lv_istore (lv' := [(5, .int 0), (6, .int 4), (0, .ref h0), (1, .int p0), (2, .int p1), (3, .int p2), (4, .int p3)]) hx hb dX12_parted_87 hl (by decide) rfl (fun ls hl => ?_)
  refine lv_iinc (v := 5) (lv' := [(6, .int 5), (5, .int 0), (0, .ref h0), (1, .int p0), (2, .int p1), (3, .int p2), (4, .int p3)]) hx hb dX12_parted_89 hl (k := 1) rfl (by decide) (by decide) rfl (fun ls hl => ?_)
  refine lv_goto (tgt := 52) hx hb dX12_parted_92 (by decide) ?_
  refine lv_iload hx hb dX12_parted_52 (lv_at hl 0 rfl) ?_
  refine lv_bipush (v := 12) hx hb dX12_parted_54 (by decide) ?_
  refine lv_icmp_ge (tgt := 95) hx hb dX12_parted_56 (by decide) (fun c9 => absurd c9 (by decide)) (fun _ => ?_)
  refine lv_iload hx hb dX12_parted_59 (lv_at hl 1 rfl) ?_
  refine lv_if_eq (tgt := 86) hx hb dX12_parted_61 (by decide) (fun _ => ?_) (fun c9 => absurd (by decide) c9)
  refine lv_iconst (v := 0) hx hb dX12_parted_86 (by decide) ?_
  refine lv_istore (lv' := [(5, .int 0), (6, .int 5), (0, .ref h0), (1, .int p0), (2, .int p1), (3, .int p2), (4, .int p3)]) hx hb dX12_parted_87 hl (by decide) rfl (fun ls hl => ?_)
  refine lv_iinc (v := 6) (lv' := [(6, .int 6), (5, .int 0), (0, .ref h0), (1, .int p0), (2, .int p1), (3, .int p2), (4, .int p3)]) hx hb dX12_parted_89 hl (k := 1) rfl (by decide) (by decide) rfl (fun ls hl => ?_)
  refine lv_goto (tgt := 52) hx hb dX12_parted_92 (by decide) ?_
  refine lv_iload hx hb dX12_parted_52 (lv_at hl 0 rfl) ?_
  refine lv_bipush (v := 12) hx hb dX12_parted_54 (by decide) ?_
  refine lv_icmp_ge (tgt := 95) hx hb dX12_parted_56 (by decide) (fun c9 => absurd c9 (by decide)) (fun _ => ?_)
  refine lv_iload hx hb dX12_parted_59 (lv_at hl 1 rfl) ?_
  refine lv_if_eq (tgt := 86) hx hb dX12_parted_61 (by decide) (fun _ => ?_) (fun c9 => absurd (by decide) c9)
  refine lv_iconst (v := 0) hx hb dX12_parted_86 (by decide) ?_
  refine lv_istore (lv' := [(5, .int 0), (6, .int 6), (0, .ref h0), (1, .int p0), (2, .int p1), (3, .int p2), (4, .int p3)]) hx hb dX12_parted_87 hl (by decide) rfl (fun ls hl => ?_)
  refine lv_iinc (v := 7) (lv' := [(6, .int 7), (5, .int 0), (0, .ref h0), (1, .int p0), (2, .int p1), (3, .int p2), (4, .int p3)]) hx hb dX12_parted_89 hl (k := 1) rfl (by decide) (by decide) rfl (fun ls hl => ?_)
  refine lv_goto (tgt := 52) hx hb dX12_parted_92 (by decide) ?_
  refine lv_iload hx hb dX12_parted_52 (lv_at hl 0 rfl) ?_
  refine lv_bipush (v := 12) hx hb dX12_parted_54 (by decide) ?_
  refine lv_icmp_ge (tgt := 95) hx hb dX12_parted_56 (by decide) (fun c9 => absurd c9 (by decide)) (fun _ => ?_)
  refine lv_iload hx hb dX12_parted_59 (lv_at hl 1 rfl) ?_
  refine lv_if_eq (tgt := 86) hx hb dX12_parted_61 (by decide) (fun _ => ?_) (fun c9 => absurd (by decide) c9)
  refine lv_iconst (v := 0) hx hb dX12_parted_86 (by decide) ?_
  refine lv_istore (lv' := [(5, .int 0), (6, .int 7), (0, .ref h0), (1, .int p0), (2, .int p1), (3, .int p2), (4, .int p3)]) hx hb dX12_parted_87 hl (by decide) rfl (fun ls hl => ?_)
  refine lv_iinc (v := 8) (lv' := [(6, .int 8), (5, .int 0), (0, .ref h0), (1, .int p0), (2, .int p1), (3, .int p2), (4, .int p3)]) hx hb dX12_parted_89 hl (k := 1) rfl (by decide) (by decide) rfl (fun ls hl => ?_)
  refine lv_goto (tgt := 52) hx hb dX12_parted_92 (by decide) ?_
  refine lv_iload hx hb dX12_parted_52 (lv_at hl 0 rfl) ?_
  refine lv_bipush (v := 12) hx hb dX12_parted_54 (by decide) ?_
  refine lv_icmp_ge (tgt := 95) hx hb dX12_parted_56 (by decide) (fun c9 => absurd c9 (by decide)) (fun _ => ?_)
  refine lv_iload hx hb dX12_parted_59 (lv_at hl 1 rfl) ?_
  refine lv_if_eq (tgt := 86) hx hb dX12_parted_61 (by decide) (fun _ => ?_) (fun c9 => absurd (by decide) c9)
  refine lv_iconst (v := 0) hx hb dX12_parted_86 (by decide) ?_
  refine lv_istore (lv' := [(5, .int 0), (6, .int 8), (0, .ref h0), (1, .int p0), (2, .int p1), (3, .int p2), (4, .int p3)]) hx hb dX12_parted_87 hl (by decide) rfl (fun ls hl => ?_)
  refine lv_iinc (v := 9) (lv' := [(6, .int 9), (5, .int 0), (0, .ref h0), (1, .int p0), (2, .int p1), (3, .int p2), (4, .int p3)]) hx hb dX12_parted_89 hl (k := 1) rfl (by decide) (by decide) rfl (fun ls hl => ?_)
  refine lv_goto (tgt := 52) hx hb dX12_parted_92 (by decide) ?_
  refine lv_iload hx hb dX12_parted_52 (lv_at hl 0 rfl) ?_
  refine lv_bipush (v := 12) hx hb dX12_parted_54 (by decide) ?_
  refine lv_icmp_ge (tgt := 95) hx hb dX12_parted_56 (by decide) (fun c9 => absurd c9 (by decide)) (fun _ => ?_)
  refine lv_iload hx hb dX12_parted_59 (lv_at hl 1 rfl) ?_
  refine lv_if_eq (tgt := 86) hx hb dX12_parted_61 (by decide) (fun _ => ?_) (fun c9 => absurd (by decide) c9)
  refine lv_iconst (v := 0) hx hb dX12_parted_86 (by decide) ?_
  refine lv_istore (lv' := [(5, .int 0), (6, .int 9), (0, .ref h0), (1, .int p0), (2, .int p1), (3, .int p2), (4, .int p3)]) hx hb dX12_parted_87 hl (by decide) rfl (fun ls hl => ?_)
  refine lv_iinc (v := 10) (lv' := [(6, .int 10), (5, .int 0), (0, .ref h0), (1, .int p0), (2, .int p1), (3, .int p2), (4, .int p3)]) hx hb dX12_parted_89 hl (k := 1) rfl (by decide) (by decide) rfl (fun ls hl => ?_)
  refine lv_goto (tgt := 52) hx hb dX12_parted_92 (by decide) ?_
  refine lv_iload hx hb dX12_parted_52 (lv_at hl 0 rfl) ?_
  refine lv_bipush (v := 12) hx hb dX12_parted_54 (by decide) ?_
  refine lv_icmp_ge (tgt := 95) hx hb dX12_parted_56 (by decide) (fun c9 => absurd c9 (by decide)) (fun _ => ?_)
  refine lv_iload hx hb dX12_parted_59 (lv_at hl 1 rfl) ?_
  refine lv_if_eq (tgt := 86) hx hb dX12_parted_61 (by decide) (fun _ => ?_) (fun c9 => absurd (by decide) c9)
  refine lv_iconst (v := 0) hx hb dX12_parted_86 (by decide) ?_
  refine lv_istore (lv' := [(5, .int 0), (6, .int 10), (0, .ref h0), (1, .int p0), (2, .int p1), (3, .int p2), (4, .int p3)]) hx hb dX12_parted_87 hl (by decide) rfl (fun ls hl => ?_)
  refine lv_iinc (v := 11) (lv' := [(6, .int 11), (5, .int 0), (0, .ref h0), (1, .int p0), (2, .int p1), (3, .int p2), (4, .int p3)]) hx hb dX12_parted_89 hl (k := 1) rfl (by decide) (by decide) rfl (fun ls hl => ?_)
  refine lv_goto (tgt := 52) hx hb dX12_parted_92 (by decide) ?_
  refine lv_iload hx hb dX12_parted_52 (lv_at hl 0 rfl) ?_
  refine lv_bipush (v := 12) hx hb dX12_parted_54 (by decide) ?_
  refine lv_icmp_ge (tgt := 95) hx hb dX12_parted_56 (by decide) (fun c9 => absurd c9 (by decide)) (fun _ => ?_)
  refine lv_iload hx hb dX12_parted_59 (lv_at hl 1 rfl) ?_
  refine lv_if_eq (tgt := 86) hx hb dX12_parted_61 (by decide) (fun _ => ?_) (fun c9 => absurd (by decide) c9)
  refine lv_iconst (v := 0) hx hb dX12_parted_86 (by decide) ?_
  refine lv_istore (lv' := [(5, .int 0), (6, .int 11), (0, .ref h0), (1, .int p0), (2, .int p1), (3, .int p2), (4, .int p3)]) hx hb dX12_parted_87 hl (by decide) rfl (fun ls hl => ?_)
  refine lv_iinc (v := 12) (lv' := [(6, .int 12), (5, .int 0), (0, .ref h0), (1, .int p0), (2, .int p1), (3, .int p2), (4, .int p3)]) hx hb dX12_parted_89 hl (k := 1) rfl (by decide) (by decide) rfl (fun ls hl => ?_)
  refine lv_goto (tgt := 52) hx hb dX12_parted_92 (by decide) ?_
  refine lv_iload hx hb dX12_parted_52 (lv_at hl 0 rfl) ?_
  refine lv_bipush (v := 12) hx hb dX12_parted_54 (by decide) ?_
  refine lv_icmp_ge (tgt := 95) hx hb dX12_parted_56 (by decide) (fun _ => ?_) (fun c9 => absurd (by decide) c9)
  refine lv_iload hx hb dX12_parted_95 (lv_at hl 1 rfl) ?_
  refine lv_if_ne (tgt := 103) hx hb dX12_parted_97 (by decide) (fun c9 => absurd (by decide) c9) (fun _ => ?_)
  refine lv_bipush (v := (-2)) hx hb dX12_parted_100 (by decide) ?_
  exact W.iret (v := (-2)) hx hb hr (fun t ht hW => ⟨(-2), rfl, rfl, ht⟩) (fun _ h => absurd h List.not_mem_nil) dX12_parted_102
set_option maxHeartbeats 1000000 in
set_option maxRecDepth 100000 in
theorem rt_X12_comes (l : Launch) (dC : Nat → ClassId) (dI : Nat → Nat → Nat) (h0 : Nat) (am : Nat → Nat) (p0 p1 p2 p3 : Int32) : Met l yX12_comes wsX12_comes ({ frames := 2, cells := 0, slots := 0, locals := 42 }) (va_Pc [.ref h0, .int p0, .int p1, .int p2, .int p3] (fun U => va_P (dC, dI) vwCl [(h0, .inr (12, [.int 0, .int 0, .ref (am 2), .ref (am 3), .ref (am 4), .int 0, .ref (am 6), .ref (am 7), .ref (am 8), .int 0, .ref (am 10), .ref (am 11), .ref (am 12), .ref (am 13), .ref (am 14), .ref (am 15), .int 0, .ref (am 17), .ref (am 18), .ref (am 19), .ref (am 20), .int 0, .ref (am 22), .int 0, .ref (am 24), .ref (am 25), .ref (am 26), .ref (am 27), .ref (am 28), .ref (am 29), .int 0, .ref (am 31), .ref (am 32), .ref (am 33), .int 0, .ref (am 35), .int 0, .ref (am 37), .ref (am 38), .ref (am 39), .ref (am 40), .ref (am 41), .ref (am 42), .ref (am 43), .int 0, .ref (am 45), .ref (am 46), .ref (am 47), .int 0, .ref (am 49), .int 0, .ref (am 51), .int 0, .ref (am 53), .ref (am 54), .int 1, .int 0, .ref (am 57), .long 0, .ref (am 59), .ref (am 60), .long 0, .int 0, .int 0, .int 0, .int 0, .int 0, .int 0, .ref (am 68), .int 0, .int 0, .ref (am 71), .ref (am 72), .ref (am 73), .ref (am 74), .ref (am 75), .ref (am 76), .ref (am 77), .ref (am 78)]))] U.heap ∧ va_K (dC, dI) vwCl [] U)) (vp_Si (fun r : Int32 => r = (-2))) 0 0 (fun _ => False) := by
  refine Met.ofW (cc := cX12_comes) (maxL := 5) (ret := (some .int)) (by decide) rfl ?_
  intro p e s m args below meth c s₁ B hml hv
  obtain ⟨rfl, hP, hK⟩ := hv
  have hx := B.exec
  have hb := B.bytes
  have hr := B.returns
  have hts := atoms_spec (ws := wsX12_comes) B.pre
  have hown : s.vm.findClass RX12 = some m.cls := findClass_of_methodNamed B.named
  have hlocks := B.notSynchronized
  have hl := lv_entry ([.ref h0, .int p0, .int p1, .int p2, .int p3]) (n := 5) (Nat.le_of_ble_eq_true rfl)
  rw [lg_entry_eq]
  generalize (lg_sl ([.ref h0, .int p0, .int p1, .int p2, .int p3]) ++ List.replicate (5 - (lg_sl ([.ref h0, .int p0, .int p1, .int p2, .int p3])).length) Slot.unset).toArray = ls at hl ⊢
  have hl : lv_has ls 5 [(0, .ref h0), (1, .int p0), (2, .int p1), (3, .int p2), (4, .int p3)] := hl
  refine lv_aload_n hx hb dX12_comes_0 rfl (lv_at hl 0 rfl) ?_
  refine lv_iload_n hx hb dX12_comes_1 rfl (lv_at hl 1 rfl) ?_
  have hPc := hP.sub (ws' := [(h0, .inr (12, [.int 0, .int 0, .ref (am 2), .ref (am 3), .ref (am 4), .int 0, .ref (am 6), .ref (am 7), .ref (am 8), .int 0, .ref (am 10), .ref (am 11), .ref (am 12), .ref (am 13), .ref (am 14), .ref (am 15), .int 0, .ref (am 17), .ref (am 18), .ref (am 19), .ref (am 20), .int 0, .ref (am 22), .int 0, .ref (am 24), .ref (am 25), .ref (am 26), .ref (am 27), .ref (am 28), .ref (am 29), .int 0, .ref (am 31), .ref (am 32), .ref (am 33), .int 0, .ref (am 35), .int 0, .ref (am 37), .ref (am 38), .ref (am 39), .ref (am 40), .ref (am 41), .ref (am 42), .ref (am 43), .int 0, .ref (am 45), .ref (am 46), .ref (am 47), .int 0, .ref (am 49), .int 0, .ref (am 51), .int 0, .ref (am 53), .ref (am 54), .int 1, .int 0, .ref (am 57), .long 0, .ref (am 59), .ref (am 60), .long 0, .int 0, .int 0, .int 0, .int 0, .int 0, .int 0, .ref (am 68), .int 0, .int 0, .ref (am 71), .ref (am 72), .ref (am 73), .ref (am 74), .ref (am 75), .ref (am 76), .ref (am 77), .ref (am 78)]))]) [0] rfl
  have hKc := hK.sub (tys' := []) [] rfl
  refine vp_callSi (va_Run.run (va_runV (As := [.int p0]) (rest := []) ⟨hx, hb, hml, hown, hts⟩ (rt_X12_isSeeker l dC dI h0 am p0) (cwV 1 hts gX12_comes_X12_isSeeker rfl rfl rfl (by decide +kernel) ⟨Nat.le_of_ble_eq_true rfl, Nat.le_of_ble_eq_true rfl⟩) ⟨fun a U g mk q => by obtain ⟨q0, qP, qK⟩ := q; exact ⟨q0, qP, va_K.moved (u := U) (U := U.calling g mk a) (Vm.Alike.refl U.vm) qK⟩, va_recv hKc hPc (ci := 12) (q0 := 0) rfl rfl, fun U hU hW => ⟨rfl, by rw [hU]; exact hPc, va_K.moved hW.alike hKc⟩⟩ rfl rfl hl.1 rfl (lv_room (Nat.le_of_ble_eq_true rfl)) dX12_comes_2 ⟨by decide +kernel, by decide +kernel⟩)) (fun r_1 hr_1 => ?_)
  obtain rfl := hr_1
  refine lv_if_eq (tgt := 42) hx hb dX12_comes_5 (by decide) (fun _ => ?_) (fun c9 => absurd (by decide) c9)
  refine lv_bipush (v := (-2)) hx hb dX12_comes_42 (by decide) ?_
  exact W.iret (v := (-2)) hx hb hr (fun t ht hW => ⟨(-2), rfl, rfl, ht⟩) (fun _ h => absurd h List.not_mem_nil) dX12_comes_44
set_option maxHeartbeats 1000000 in
set_option maxRecDepth 100000 in
theorem rt_X12_last (l : Launch) (dC : Nat → ClassId) (dI : Nat → Nat → Nat) (h0 : Nat) (am : Nat → Nat) (p0 p1 p2 : Int32) : Met l yX12_last wsX12_last ({ frames := 2, cells := 0, slots := 0, locals := 42 }) (va_Pc [.ref h0, .int p0, .int p1, .int p2] (fun U => va_P (dC, dI) vwCl [(h0, .inr (12, [.int 0, .int 0, .ref (am 2), .ref (am 3), .ref (am 4), .int 0, .ref (am 6), .ref (am 7), .ref (am 8), .int 0, .ref (am 10), .ref (am 11), .ref (am 12), .ref (am 13), .ref (am 14), .ref (am 15), .int 0, .ref (am 17), .ref (am 18), .ref (am 19), .ref (am 20), .int 0, .ref (am 22), .int 0, .ref (am 24), .ref (am 25), .ref (am 26), .ref (am 27), .ref (am 28), .ref (am 29), .int 0, .ref (am 31), .ref (am 32), .ref (am 33), .int 0, .ref (am 35), .int 0, .ref (am 37), .ref (am 38), .ref (am 39), .ref (am 40), .ref (am 41), .ref (am 42), .ref (am 43), .int 0, .ref (am 45), .ref (am 46), .ref (am 47), .int 0, .ref (am 49), .int 0, .ref (am 51), .int 0, .ref (am 53), .ref (am 54), .int 1, .int 0, .ref (am 57), .long 0, .ref (am 59), .ref (am 60), .long 0, .int 0, .int 0, .int 0, .int 0, .int 0, .int 0, .ref (am 68), .int 0, .int 0, .ref (am 71), .ref (am 72), .ref (am 73), .ref (am 74), .ref (am 75), .ref (am 76), .ref (am 77), .ref (am 78)]))] U.heap ∧ va_K (dC, dI) vwCl [] U)) (vp_Si (fun r : Int32 => r = (-2))) 0 0 (fun _ => False) := by
  refine Met.ofW (cc := cX12_last) (maxL := 5) (ret := (some .int)) (by decide) rfl ?_
  intro p e s m args below meth c s₁ B hml hv
  obtain ⟨rfl, hP, hK⟩ := hv
  have hx := B.exec
  have hb := B.bytes
  have hr := B.returns
  have hts := atoms_spec (ws := wsX12_last) B.pre
  have hown : s.vm.findClass RX12 = some m.cls := findClass_of_methodNamed B.named
  have hlocks := B.notSynchronized
  have hl := lv_entry ([.ref h0, .int p0, .int p1, .int p2]) (n := 5) (Nat.le_of_ble_eq_true rfl)
  rw [lg_entry_eq]
  generalize (lg_sl ([.ref h0, .int p0, .int p1, .int p2]) ++ List.replicate (5 - (lg_sl ([.ref h0, .int p0, .int p1, .int p2])).length) Slot.unset).toArray = ls at hl ⊢
  have hl : lv_has ls 5 [(0, .ref h0), (1, .int p0), (2, .int p1), (3, .int p2)] := hl
  refine lv_aload_n hx hb dX12_last_0 rfl (lv_at hl 0 rfl) ?_
  refine lv_iload_n hx hb dX12_last_1 rfl (lv_at hl 1 rfl) ?_
  have hPc := hP.sub (ws' := [(h0, .inr (12, [.int 0, .int 0, .ref (am 2), .ref (am 3), .ref (am 4), .int 0, .ref (am 6), .ref (am 7), .ref (am 8), .int 0, .ref (am 10), .ref (am 11), .ref (am 12), .ref (am 13), .ref (am 14), .ref (am 15), .int 0, .ref (am 17), .ref (am 18), .ref (am 19), .ref (am 20), .int 0, .ref (am 22), .int 0, .ref (am 24), .ref (am 25), .ref (am 26), .ref (am 27), .ref (am 28), .ref (am 29), .int 0, .ref (am 31), .ref (am 32), .ref (am 33), .int 0, .ref (am 35), .int 0, .ref (am 37), .ref (am 38), .ref (am 39), .ref (am 40), .ref (am 41), .ref (am 42), .ref (am 43), .int 0, .ref (am 45), .ref (am 46), .ref (am 47), .int 0, .ref (am 49), .int 0, .ref (am 51), .int 0, .ref (am 53), .ref (am 54), .int 1, .int 0, .ref (am 57), .long 0, .ref (am 59), .ref (am 60), .long 0, .int 0, .int 0, .int 0, .int 0, .int 0, .int 0, .ref (am 68), .int 0, .int 0, .ref (am 71), .ref (am 72), .ref (am 73), .ref (am 74), .ref (am 75), .ref (am 76), .ref (am 77), .ref (am 78)]))]) [0] rfl
  have hKc := hK.sub (tys' := []) [] rfl
  refine vp_callSi (va_Run.run (va_runV (As := [.int p0]) (rest := []) ⟨hx, hb, hml, hown, hts⟩ (rt_X12_isSeeker l dC dI h0 am p0) (cwV 1 hts gX12_last_X12_isSeeker rfl rfl rfl (by decide +kernel) ⟨Nat.le_of_ble_eq_true rfl, Nat.le_of_ble_eq_true rfl⟩) ⟨fun a U g mk q => by obtain ⟨q0, qP, qK⟩ := q; exact ⟨q0, qP, va_K.moved (u := U) (U := U.calling g mk a) (Vm.Alike.refl U.vm) qK⟩, va_recv hKc hPc (ci := 12) (q0 := 0) rfl rfl, fun U hU hW => ⟨rfl, by rw [hU]; exact hPc, va_K.moved hW.alike hKc⟩⟩ rfl rfl hl.1 rfl (lv_room (Nat.le_of_ble_eq_true rfl)) dX12_last_2 ⟨by decide +kernel, by decide +kernel⟩)) (fun r_1 hr_1 => ?_)
  obtain rfl := hr_1
  refine lv_if_eq (tgt := 22) hx hb dX12_last_5 (by decide) (fun _ => ?_) (fun c9 => absurd (by decide) c9)
  refine lv_bipush (v := (-2)) hx hb dX12_last_22 (by decide) ?_
  exact W.iret (v := (-2)) hx hb hr (fun t ht hW => ⟨(-2), rfl, rfl, ht⟩) (fun _ h => absurd h List.not_mem_nil) dX12_last_24
set_option maxHeartbeats 1000000 in
set_option maxRecDepth 100000 in
theorem rt_X12_man (l : Launch) (dC : Nat → ClassId) (dI : Nat → Nat → Nat) (h0 : Nat) (am : Nat → Nat) (p0 p1 p2 p3 : Int32) : Met l yX12_man wsX12_man ({ frames := 1, cells := 0, slots := 0, locals := 21 }) (va_Pc [.ref h0, .int p0, .int p1, .int p2, .int p3] (fun U => va_P (dC, dI) vwCl [(h0, .inr (12, [.int 0, .int 0, .ref (am 2), .ref (am 3), .ref (am 4), .int 0, .ref (am 6), .ref (am 7), .ref (am 8), .int 0, .ref (am 10), .ref (am 11), .ref (am 12), .ref (am 13), .ref (am 14), .ref (am 15), .int 0, .ref (am 17), .ref (am 18), .ref (am 19), .ref (am 20), .int 0, .ref (am 22), .int 0, .ref (am 24), .ref (am 25), .ref (am 26), .ref (am 27), .ref (am 28), .ref (am 29), .int 0, .ref (am 31), .ref (am 32), .ref (am 33), .int 0, .ref (am 35), .int 0, .ref (am 37), .ref (am 38), .ref (am 39), .ref (am 40), .ref (am 41), .ref (am 42), .ref (am 43), .int 0, .ref (am 45), .ref (am 46), .ref (am 47), .int 0, .ref (am 49), .int 0, .ref (am 51), .int 0, .ref (am 53), .ref (am 54), .int 1, .int 0, .ref (am 57), .long 0, .ref (am 59), .ref (am 60), .long 0, .int 0, .int 0, .int 0, .int 0, .int 0, .int 0, .ref (am 68), .int 0, .int 0, .ref (am 71), .ref (am 72), .ref (am 73), .ref (am 74), .ref (am 75), .ref (am 76), .ref (am 77), .ref (am 78)]))] U.heap ∧ va_K (dC, dI) vwCl [] U)) (vp_Si (fun r : Int32 => r = (-2))) 0 0 (fun _ => False) := by
  refine Met.ofW (cc := cX12_man) (maxL := 5) (ret := (some .int)) (by decide) rfl ?_
  intro p e s m args below meth c s₁ B hml hv
  obtain ⟨rfl, hP, hK⟩ := hv
  have hx := B.exec
  have hb := B.bytes
  have hr := B.returns
  have hts := atoms_spec (ws := wsX12_man) B.pre
  have hown : s.vm.findClass RX12 = some m.cls := findClass_of_methodNamed B.named
  have hlocks := B.notSynchronized
  have hl := lv_entry ([.ref h0, .int p0, .int p1, .int p2, .int p3]) (n := 5) (Nat.le_of_ble_eq_true rfl)
  rw [lg_entry_eq]
  generalize (lg_sl ([.ref h0, .int p0, .int p1, .int p2, .int p3]) ++ List.replicate (5 - (lg_sl ([.ref h0, .int p0, .int p1, .int p2, .int p3])).length) Slot.unset).toArray = ls at hl ⊢
  have hl : lv_has ls 5 [(0, .ref h0), (1, .int p0), (2, .int p1), (3, .int p2), (4, .int p3)] := hl
  refine lv_aload_n hx hb dX12_man_0 rfl (lv_at hl 0 rfl) ?_
  refine lv_iload_n hx hb dX12_man_1 rfl (lv_at hl 1 rfl) ?_
  have hPc := hP.sub (ws' := [(h0, .inr (12, [.int 0, .int 0, .ref (am 2), .ref (am 3), .ref (am 4), .int 0, .ref (am 6), .ref (am 7), .ref (am 8), .int 0, .ref (am 10), .ref (am 11), .ref (am 12), .ref (am 13), .ref (am 14), .ref (am 15), .int 0, .ref (am 17), .ref (am 18), .ref (am 19), .ref (am 20), .int 0, .ref (am 22), .int 0, .ref (am 24), .ref (am 25), .ref (am 26), .ref (am 27), .ref (am 28), .ref (am 29), .int 0, .ref (am 31), .ref (am 32), .ref (am 33), .int 0, .ref (am 35), .int 0, .ref (am 37), .ref (am 38), .ref (am 39), .ref (am 40), .ref (am 41), .ref (am 42), .ref (am 43), .int 0, .ref (am 45), .ref (am 46), .ref (am 47), .int 0, .ref (am 49), .int 0, .ref (am 51), .int 0, .ref (am 53), .ref (am 54), .int 1, .int 0, .ref (am 57), .long 0, .ref (am 59), .ref (am 60), .long 0, .int 0, .int 0, .int 0, .int 0, .int 0, .int 0, .ref (am 68), .int 0, .int 0, .ref (am 71), .ref (am 72), .ref (am 73), .ref (am 74), .ref (am 75), .ref (am 76), .ref (am 77), .ref (am 78)]))]) [0] rfl
  have hKc := hK.sub (tys' := []) [] rfl
  refine vp_callSi (va_Run.run (va_runV (As := [.int p0]) (rest := []) ⟨hx, hb, hml, hown, hts⟩ (rt_X12_isBody l dC dI h0 am p0) (cwV 1 hts gX12_man_X12_isBody rfl rfl rfl (by decide +kernel) ⟨Nat.le_of_ble_eq_true rfl, Nat.le_of_ble_eq_true rfl⟩) ⟨fun a U g mk q => by obtain ⟨q0, qP, qK⟩ := q; exact ⟨q0, qP, va_K.moved (u := U) (U := U.calling g mk a) (Vm.Alike.refl U.vm) qK⟩, va_recv hKc hPc (ci := 12) (q0 := 0) rfl rfl, fun U hU hW => ⟨rfl, by rw [hU]; exact hPc, va_K.moved hW.alike hKc⟩⟩ rfl rfl hl.1 rfl (lv_room (Nat.le_of_ble_eq_true rfl)) dX12_man_2 ⟨by decide +kernel, by decide +kernel⟩)) (fun r_1 hr_1 => ?_)
  obtain rfl := hr_1
  refine lv_if_eq (tgt := 39) hx hb dX12_man_5 (by decide) (fun _ => ?_) (fun c9 => absurd (by decide) c9)
  refine lv_bipush (v := (-2)) hx hb dX12_man_39 (by decide) ?_
  exact W.iret (v := (-2)) hx hb hr (fun t ht hW => ⟨(-2), rfl, rfl, ht⟩) (fun _ h => absurd h List.not_mem_nil) dX12_man_41
set_option maxHeartbeats 1000000 in
set_option maxRecDepth 100000 in
theorem rt_X12_first (l : Launch) (dC : Nat → ClassId) (dI : Nat → Nat → Nat) (h0 : Nat) (am : Nat → Nat) (p0 p1 : Int32) : Met l yX12_first wsX12_first ({ frames := 1, cells := 0, slots := 0, locals := 21 }) (va_Pc [.ref h0, .int p0, .int p1] (fun U => va_P (dC, dI) vwCl [(h0, .inr (12, [.int 0, .int 0, .ref (am 2), .ref (am 3), .ref (am 4), .int 0, .ref (am 6), .ref (am 7), .ref (am 8), .int 0, .ref (am 10), .ref (am 11), .ref (am 12), .ref (am 13), .ref (am 14), .ref (am 15), .int 0, .ref (am 17), .ref (am 18), .ref (am 19), .ref (am 20), .int 0, .ref (am 22), .int 0, .ref (am 24), .ref (am 25), .ref (am 26), .ref (am 27), .ref (am 28), .ref (am 29), .int 0, .ref (am 31), .ref (am 32), .ref (am 33), .int 0, .ref (am 35), .int 0, .ref (am 37), .ref (am 38), .ref (am 39), .ref (am 40), .ref (am 41), .ref (am 42), .ref (am 43), .int 0, .ref (am 45), .ref (am 46), .ref (am 47), .int 0, .ref (am 49), .int 0, .ref (am 51), .int 0, .ref (am 53), .ref (am 54), .int 1, .int 0, .ref (am 57), .long 0, .ref (am 59), .ref (am 60), .long 0, .int 0, .int 0, .int 0, .int 0, .int 0, .int 0, .ref (am 68), .int 0, .int 0, .ref (am 71), .ref (am 72), .ref (am 73), .ref (am 74), .ref (am 75), .ref (am 76), .ref (am 77), .ref (am 78)]))] U.heap ∧ va_K (dC, dI) vwCl [] U)) (vp_Si (fun r : Int32 => r = (-2))) 0 0 (fun _ => False) := by
  refine Met.ofW (cc := cX12_first) (maxL := 6) (ret := (some .int)) (by decide) rfl ?_
  intro p e s m args below meth c s₁ B hml hv
  obtain ⟨rfl, hP, hK⟩ := hv
  have hx := B.exec
  have hb := B.bytes
  have hr := B.returns
  have hts := atoms_spec (ws := wsX12_first) B.pre
  have hown : s.vm.findClass RX12 = some m.cls := findClass_of_methodNamed B.named
  have hlocks := B.notSynchronized
  have hl := lv_entry ([.ref h0, .int p0, .int p1]) (n := 6) (Nat.le_of_ble_eq_true rfl)
  rw [lg_entry_eq]
  generalize (lg_sl ([.ref h0, .int p0, .int p1]) ++ List.replicate (6 - (lg_sl ([.ref h0, .int p0, .int p1])).length) Slot.unset).toArray = ls at hl ⊢
  have hl : lv_has ls 6 [(0, .ref h0), (1, .int p0), (2, .int p1)] := hl
  refine lv_aload_n hx hb dX12_first_0 rfl (lv_at hl 0 rfl) ?_
  refine lv_iload_n hx hb dX12_first_1 rfl (lv_at hl 1 rfl) ?_
  have hPc := hP.sub (ws' := [(h0, .inr (12, [.int 0, .int 0, .ref (am 2), .ref (am 3), .ref (am 4), .int 0, .ref (am 6), .ref (am 7), .ref (am 8), .int 0, .ref (am 10), .ref (am 11), .ref (am 12), .ref (am 13), .ref (am 14), .ref (am 15), .int 0, .ref (am 17), .ref (am 18), .ref (am 19), .ref (am 20), .int 0, .ref (am 22), .int 0, .ref (am 24), .ref (am 25), .ref (am 26), .ref (am 27), .ref (am 28), .ref (am 29), .int 0, .ref (am 31), .ref (am 32), .ref (am 33), .int 0, .ref (am 35), .int 0, .ref (am 37), .ref (am 38), .ref (am 39), .ref (am 40), .ref (am 41), .ref (am 42), .ref (am 43), .int 0, .ref (am 45), .ref (am 46), .ref (am 47), .int 0, .ref (am 49), .int 0, .ref (am 51), .int 0, .ref (am 53), .ref (am 54), .int 1, .int 0, .ref (am 57), .long 0, .ref (am 59), .ref (am 60), .long 0, .int 0, .int 0, .int 0, .int 0, .int 0, .int 0, .ref (am 68), .int 0, .int 0, .ref (am 71), .ref (am 72), .ref (am 73), .ref (am 74), .ref (am 75), .ref (am 76), .ref (am 77), .ref (am 78)]))]) [0] rfl
  have hKc := hK.sub (tys' := []) [] rfl
  refine vp_callSi (va_Run.run (va_runV (As := [.int p0]) (rest := []) ⟨hx, hb, hml, hown, hts⟩ (rt_X12_isBody l dC dI h0 am p0) (cwV 1 hts gX12_first_X12_isBody rfl rfl rfl (by decide +kernel) ⟨Nat.le_of_ble_eq_true rfl, Nat.le_of_ble_eq_true rfl⟩) ⟨fun a U g mk q => by obtain ⟨q0, qP, qK⟩ := q; exact ⟨q0, qP, va_K.moved (u := U) (U := U.calling g mk a) (Vm.Alike.refl U.vm) qK⟩, va_recv hKc hPc (ci := 12) (q0 := 0) rfl rfl, fun U hU hW => ⟨rfl, by rw [hU]; exact hPc, va_K.moved hW.alike hKc⟩⟩ rfl rfl hl.1 rfl (lv_room (Nat.le_of_ble_eq_true rfl)) dX12_first_2 ⟨by decide +kernel, by decide +kernel⟩)) (fun r_1 hr_1 => ?_)
  obtain rfl := hr_1
  refine lv_if_ne (tgt := 11) hx hb dX12_first_5 (by decide) (fun c9 => absurd (by decide) c9) (fun _ => ?_)
  refine lv_bipush (v := (-2)) hx hb dX12_first_8 (by decide) ?_
  exact W.iret (v := (-2)) hx hb hr (fun t ht hW => ⟨(-2), rfl, rfl, ht⟩) (fun _ h => absurd h List.not_mem_nil) dX12_first_10
set_option maxHeartbeats 1000000 in
set_option maxRecDepth 100000 in
theorem rt_X12_story (l : Launch) (dC : Nat → ClassId) (dI : Nat → Nat → Nat) (h0 : Nat) (am : Nat → Nat) (p0 p1 p2 : Int32) : Met l yX12_story wsX12_story ({ frames := 1, cells := 0, slots := 0, locals := 21 }) (va_Pc [.ref h0, .int p0, .int p1, .int p2] (fun U => va_P (dC, dI) vwCl [(h0, .inr (12, [.int 0, .int 0, .ref (am 2), .ref (am 3), .ref (am 4), .int 0, .ref (am 6), .ref (am 7), .ref (am 8), .int 0, .ref (am 10), .ref (am 11), .ref (am 12), .ref (am 13), .ref (am 14), .ref (am 15), .int 0, .ref (am 17), .ref (am 18), .ref (am 19), .ref (am 20), .int 0, .ref (am 22), .int 0, .ref (am 24), .ref (am 25), .ref (am 26), .ref (am 27), .ref (am 28), .ref (am 29), .int 0, .ref (am 31), .ref (am 32), .ref (am 33), .int 0, .ref (am 35), .int 0, .ref (am 37), .ref (am 38), .ref (am 39), .ref (am 40), .ref (am 41), .ref (am 42), .ref (am 43), .int 0, .ref (am 45), .ref (am 46), .ref (am 47), .int 0, .ref (am 49), .int 0, .ref (am 51), .int 0, .ref (am 53), .ref (am 54), .int 1, .int 0, .ref (am 57), .long 0, .ref (am 59), .ref (am 60), .long 0, .int 0, .int 0, .int 0, .int 0, .int 0, .int 0, .ref (am 68), .int 0, .int 0, .ref (am 71), .ref (am 72), .ref (am 73), .ref (am 74), .ref (am 75), .ref (am 76), .ref (am 77), .ref (am 78)]))] U.heap ∧ va_K (dC, dI) vwCl [] U)) (vp_Si (fun r : Int32 => r = (-2))) 0 0 (fun _ => False) := by
  refine Met.ofW (cc := cX12_story) (maxL := 4) (ret := (some .int)) (by decide) rfl ?_
  intro p e s m args below meth c s₁ B hml hv
  obtain ⟨rfl, hP, hK⟩ := hv
  have hx := B.exec
  have hb := B.bytes
  have hr := B.returns
  have hts := atoms_spec (ws := wsX12_story) B.pre
  have hown : s.vm.findClass RX12 = some m.cls := findClass_of_methodNamed B.named
  have hlocks := B.notSynchronized
  have hl := lv_entry ([.ref h0, .int p0, .int p1, .int p2]) (n := 4) (Nat.le_of_ble_eq_true rfl)
  rw [lg_entry_eq]
  generalize (lg_sl ([.ref h0, .int p0, .int p1, .int p2]) ++ List.replicate (4 - (lg_sl ([.ref h0, .int p0, .int p1, .int p2])).length) Slot.unset).toArray = ls at hl ⊢
  have hl : lv_has ls 4 [(0, .ref h0), (1, .int p0), (2, .int p1), (3, .int p2)] := hl
  refine lv_aload_n hx hb dX12_story_0 rfl (lv_at hl 0 rfl) ?_
  refine lv_iload_n hx hb dX12_story_1 rfl (lv_at hl 1 rfl) ?_
  have hPc := hP.sub (ws' := [(h0, .inr (12, [.int 0, .int 0, .ref (am 2), .ref (am 3), .ref (am 4), .int 0, .ref (am 6), .ref (am 7), .ref (am 8), .int 0, .ref (am 10), .ref (am 11), .ref (am 12), .ref (am 13), .ref (am 14), .ref (am 15), .int 0, .ref (am 17), .ref (am 18), .ref (am 19), .ref (am 20), .int 0, .ref (am 22), .int 0, .ref (am 24), .ref (am 25), .ref (am 26), .ref (am 27), .ref (am 28), .ref (am 29), .int 0, .ref (am 31), .ref (am 32), .ref (am 33), .int 0, .ref (am 35), .int 0, .ref (am 37), .ref (am 38), .ref (am 39), .ref (am 40), .ref (am 41), .ref (am 42), .ref (am 43), .int 0, .ref (am 45), .ref (am 46), .ref (am 47), .int 0, .ref (am 49), .int 0, .ref (am 51), .int 0, .ref (am 53), .ref (am 54), .int 1, .int 0, .ref (am 57), .long 0, .ref (am 59), .ref (am 60), .long 0, .int 0, .int 0, .int 0, .int 0, .int 0, .int 0, .ref (am 68), .int 0, .int 0, .ref (am 71), .ref (am 72), .ref (am 73), .ref (am 74), .ref (am 75), .ref (am 76), .ref (am 77), .ref (am 78)]))]) [0] rfl
  have hKc := hK.sub (tys' := []) [] rfl
  refine vp_callSi (va_Run.run (va_runV (As := [.int p0]) (rest := []) ⟨hx, hb, hml, hown, hts⟩ (rt_X12_isBody l dC dI h0 am p0) (cwV 1 hts gX12_story_X12_isBody rfl rfl rfl (by decide +kernel) ⟨Nat.le_of_ble_eq_true rfl, Nat.le_of_ble_eq_true rfl⟩) ⟨fun a U g mk q => by obtain ⟨q0, qP, qK⟩ := q; exact ⟨q0, qP, va_K.moved (u := U) (U := U.calling g mk a) (Vm.Alike.refl U.vm) qK⟩, va_recv hKc hPc (ci := 12) (q0 := 0) rfl rfl, fun U hU hW => ⟨rfl, by rw [hU]; exact hPc, va_K.moved hW.alike hKc⟩⟩ rfl rfl hl.1 rfl (lv_room (Nat.le_of_ble_eq_true rfl)) dX12_story_2 ⟨by decide +kernel, by decide +kernel⟩)) (fun r_1 hr_1 => ?_)
  obtain rfl := hr_1
  refine lv_if_eq (tgt := 32) hx hb dX12_story_5 (by decide) (fun _ => ?_) (fun c9 => absurd (by decide) c9)
  refine lv_bipush (v := (-2)) hx hb dX12_story_32 (by decide) ?_
  exact W.iret (v := (-2)) hx hb hr (fun t ht hW => ⟨(-2), rfl, rfl, ht⟩) (fun _ h => absurd h List.not_mem_nil) dX12_story_34
set_option maxHeartbeats 1000000 in
set_option maxRecDepth 100000 in
theorem rt_X12_flown (l : Launch) (dC : Nat → ClassId) (dI : Nat → Nat → Nat) (h0 : Nat) (am : Nat → Nat) (p0 p1 p2 : Int32) : Met l yX12_flown wsX12_flown ({ frames := 2, cells := 0, slots := 0, locals := 42 }) (va_Pc [.ref h0, .int p0, .int p1, .int p2] (fun U => va_P (dC, dI) vwCl [(h0, .inr (12, [.int 0, .int 0, .ref (am 2), .ref (am 3), .ref (am 4), .int 0, .ref (am 6), .ref (am 7), .ref (am 8), .int 0, .ref (am 10), .ref (am 11), .ref (am 12), .ref (am 13), .ref (am 14), .ref (am 15), .int 0, .ref (am 17), .ref (am 18), .ref (am 19), .ref (am 20), .int 0, .ref (am 22), .int 0, .ref (am 24), .ref (am 25), .ref (am 26), .ref (am 27), .ref (am 28), .ref (am 29), .int 0, .ref (am 31), .ref (am 32), .ref (am 33), .int 0, .ref (am 35), .int 0, .ref (am 37), .ref (am 38), .ref (am 39), .ref (am 40), .ref (am 41), .ref (am 42), .ref (am 43), .int 0, .ref (am 45), .ref (am 46), .ref (am 47), .int 0, .ref (am 49), .int 0, .ref (am 51), .int 0, .ref (am 53), .ref (am 54), .int 1, .int 0, .ref (am 57), .long 0, .ref (am 59), .ref (am 60), .long 0, .int 0, .int 0, .int 0, .int 0, .int 0, .int 0, .ref (am 68), .int 0, .int 0, .ref (am 71), .ref (am 72), .ref (am 73), .ref (am 74), .ref (am 75), .ref (am 76), .ref (am 77), .ref (am 78)]))] U.heap ∧ va_K (dC, dI) vwCl [] U)) (vp_Si (fun r : Int32 => r = (-2))) 0 0 (fun _ => False) := by
  refine Met.ofW (cc := cX12_flown) (maxL := 4) (ret := (some .int)) (by decide) rfl ?_
  intro p e s m args below meth c s₁ B hml hv
  obtain ⟨rfl, hP, hK⟩ := hv
  have hx := B.exec
  have hb := B.bytes
  have hr := B.returns
  have hts := atoms_spec (ws := wsX12_flown) B.pre
  have hown : s.vm.findClass RX12 = some m.cls := findClass_of_methodNamed B.named
  have hlocks := B.notSynchronized
  have hl := lv_entry ([.ref h0, .int p0, .int p1, .int p2]) (n := 4) (Nat.le_of_ble_eq_true rfl)
  rw [lg_entry_eq]
  generalize (lg_sl ([.ref h0, .int p0, .int p1, .int p2]) ++ List.replicate (4 - (lg_sl ([.ref h0, .int p0, .int p1, .int p2])).length) Slot.unset).toArray = ls at hl ⊢
  have hl : lv_has ls 4 [(0, .ref h0), (1, .int p0), (2, .int p1), (3, .int p2)] := hl
  refine lv_aload_n hx hb dX12_flown_0 rfl (lv_at hl 0 rfl) ?_
  refine lv_iload_n hx hb dX12_flown_1 rfl (lv_at hl 1 rfl) ?_
  have hPc := hP.sub (ws' := [(h0, .inr (12, [.int 0, .int 0, .ref (am 2), .ref (am 3), .ref (am 4), .int 0, .ref (am 6), .ref (am 7), .ref (am 8), .int 0, .ref (am 10), .ref (am 11), .ref (am 12), .ref (am 13), .ref (am 14), .ref (am 15), .int 0, .ref (am 17), .ref (am 18), .ref (am 19), .ref (am 20), .int 0, .ref (am 22), .int 0, .ref (am 24), .ref (am 25), .ref (am 26), .ref (am 27), .ref (am 28), .ref (am 29), .int 0, .ref (am 31), .ref (am 32), .ref (am 33), .int 0, .ref (am 35), .int 0, .ref (am 37), .ref (am 38), .ref (am 39), .ref (am 40), .ref (am 41), .ref (am 42), .ref (am 43), .int 0, .ref (am 45), .ref (am 46), .ref (am 47), .int 0, .ref (am 49), .int 0, .ref (am 51), .int 0, .ref (am 53), .ref (am 54), .int 1, .int 0, .ref (am 57), .long 0, .ref (am 59), .ref (am 60), .long 0, .int 0, .int 0, .int 0, .int 0, .int 0, .int 0, .ref (am 68), .int 0, .int 0, .ref (am 71), .ref (am 72), .ref (am 73), .ref (am 74), .ref (am 75), .ref (am 76), .ref (am 77), .ref (am 78)]))]) [0] rfl
  have hKc := hK.sub (tys' := []) [] rfl
  refine vp_callSi (va_Run.run (va_runV (As := [.int p0]) (rest := []) ⟨hx, hb, hml, hown, hts⟩ (rt_X12_isSeeker l dC dI h0 am p0) (cwV 1 hts gX12_flown_X12_isSeeker rfl rfl rfl (by decide +kernel) ⟨Nat.le_of_ble_eq_true rfl, Nat.le_of_ble_eq_true rfl⟩) ⟨fun a U g mk q => by obtain ⟨q0, qP, qK⟩ := q; exact ⟨q0, qP, va_K.moved (u := U) (U := U.calling g mk a) (Vm.Alike.refl U.vm) qK⟩, va_recv hKc hPc (ci := 12) (q0 := 0) rfl rfl, fun U hU hW => ⟨rfl, by rw [hU]; exact hPc, va_K.moved hW.alike hKc⟩⟩ rfl rfl hl.1 rfl (lv_room (Nat.le_of_ble_eq_true rfl)) dX12_flown_2 ⟨by decide +kernel, by decide +kernel⟩)) (fun r_1 hr_1 => ?_)
  obtain rfl := hr_1
  refine lv_if_eq (tgt := 28) hx hb dX12_flown_5 (by decide) (fun _ => ?_) (fun c9 => absurd (by decide) c9)
  refine lv_bipush (v := (-2)) hx hb dX12_flown_28 (by decide) ?_
  exact W.iret (v := (-2)) hx hb hr (fun t ht hW => ⟨(-2), rfl, rfl, ht⟩) (fun _ h => absurd h List.not_mem_nil) dX12_flown_30
set_option maxHeartbeats 1000000 in
set_option maxRecDepth 100000 in
theorem rt_X12_canHear (l : Launch) (dC : Nat → ClassId) (dI : Nat → Nat → Nat) (h0 : Nat) (am : Nat → Nat) (p0 p1 : Int32) : Met l yX12_canHear wsX12_canHear ({ frames := 1, cells := 0, slots := 0, locals := 21 }) (va_Pc [.ref h0, .int p0, .int p1] (fun U => va_P (dC, dI) vwCl [(h0, .inr (12, [.int 0, .int 0, .ref (am 2), .ref (am 3), .ref (am 4), .int 0, .ref (am 6), .ref (am 7), .ref (am 8), .int 0, .ref (am 10), .ref (am 11), .ref (am 12), .ref (am 13), .ref (am 14), .ref (am 15), .int 0, .ref (am 17), .ref (am 18), .ref (am 19), .ref (am 20), .int 0, .ref (am 22), .int 0, .ref (am 24), .ref (am 25), .ref (am 26), .ref (am 27), .ref (am 28), .ref (am 29), .int 0, .ref (am 31), .ref (am 32), .ref (am 33), .int 0, .ref (am 35), .int 0, .ref (am 37), .ref (am 38), .ref (am 39), .ref (am 40), .ref (am 41), .ref (am 42), .ref (am 43), .int 0, .ref (am 45), .ref (am 46), .ref (am 47), .int 0, .ref (am 49), .int 0, .ref (am 51), .int 0, .ref (am 53), .ref (am 54), .int 1, .int 0, .ref (am 57), .long 0, .ref (am 59), .ref (am 60), .long 0, .int 0, .int 0, .int 0, .int 0, .int 0, .int 0, .ref (am 68), .int 0, .int 0, .ref (am 71), .ref (am 72), .ref (am 73), .ref (am 74), .ref (am 75), .ref (am 76), .ref (am 77), .ref (am 78)]))] U.heap ∧ va_K (dC, dI) vwCl [] U)) (vp_Si (fun r : Int32 => r = (-2))) 0 0 (fun _ => False) := by
  refine Met.ofW (cc := cX12_canHear) (maxL := 10) (ret := (some .int)) (by decide) rfl ?_
  intro p e s m args below meth c s₁ B hml hv
  obtain ⟨rfl, hP, hK⟩ := hv
  have hx := B.exec
  have hb := B.bytes
  have hr := B.returns
  have hts := atoms_spec (ws := wsX12_canHear) B.pre
  have hown : s.vm.findClass RX12 = some m.cls := findClass_of_methodNamed B.named
  have hlocks := B.notSynchronized
  have hl := lv_entry ([.ref h0, .int p0, .int p1]) (n := 10) (Nat.le_of_ble_eq_true rfl)
  rw [lg_entry_eq]
  generalize (lg_sl ([.ref h0, .int p0, .int p1]) ++ List.replicate (10 - (lg_sl ([.ref h0, .int p0, .int p1])).length) Slot.unset).toArray = ls at hl ⊢
  have hl : lv_has ls 10 [(0, .ref h0), (1, .int p0), (2, .int p1)] := hl
  refine lv_aload_n hx hb dX12_canHear_0 rfl (lv_at hl 0 rfl) ?_
  refine lv_iload_n hx hb dX12_canHear_1 rfl (lv_at hl 1 rfl) ?_
  have hPc := hP.sub (ws' := [(h0, .inr (12, [.int 0, .int 0, .ref (am 2), .ref (am 3), .ref (am 4), .int 0, .ref (am 6), .ref (am 7), .ref (am 8), .int 0, .ref (am 10), .ref (am 11), .ref (am 12), .ref (am 13), .ref (am 14), .ref (am 15), .int 0, .ref (am 17), .ref (am 18), .ref (am 19), .ref (am 20), .int 0, .ref (am 22), .int 0, .ref (am 24), .ref (am 25), .ref (am 26), .ref (am 27), .ref (am 28), .ref (am 29), .int 0, .ref (am 31), .ref (am 32), .ref (am 33), .int 0, .ref (am 35), .int 0, .ref (am 37), .ref (am 38), .ref (am 39), .ref (am 40), .ref (am 41), .ref (am 42), .ref (am 43), .int 0, .ref (am 45), .ref (am 46), .ref (am 47), .int 0, .ref (am 49), .int 0, .ref (am 51), .int 0, .ref (am 53), .ref (am 54), .int 1, .int 0, .ref (am 57), .long 0, .ref (am 59), .ref (am 60), .long 0, .int 0, .int 0, .int 0, .int 0, .int 0, .int 0, .ref (am 68), .int 0, .int 0, .ref (am 71), .ref (am 72), .ref (am 73), .ref (am 74), .ref (am 75), .ref (am 76), .ref (am 77), .ref (am 78)]))]) [0] rfl
  have hKc := hK.sub (tys' := []) [] rfl
  refine vp_callSi (va_Run.run (va_runV (As := [.int p0]) (rest := []) ⟨hx, hb, hml, hown, hts⟩ (rt_X12_isCall l dC dI h0 am p0) (cwV 1 hts gX12_canHear_X12_isCall rfl rfl rfl (by decide +kernel) ⟨Nat.le_of_ble_eq_true rfl, Nat.le_of_ble_eq_true rfl⟩) ⟨fun a U g mk q => by obtain ⟨q0, qP, qK⟩ := q; exact ⟨q0, qP, va_K.moved (u := U) (U := U.calling g mk a) (Vm.Alike.refl U.vm) qK⟩, va_recv hKc hPc (ci := 12) (q0 := 0) rfl rfl, fun U hU hW => ⟨rfl, by rw [hU]; exact hPc, va_K.moved hW.alike hKc⟩⟩ rfl rfl hl.1 rfl (lv_room (Nat.le_of_ble_eq_true rfl)) dX12_canHear_2 ⟨by decide +kernel, by decide +kernel⟩)) (fun r_1 hr_1 => ?_)
  obtain rfl := hr_1
  refine lv_if_eq (tgt := 20) hx hb dX12_canHear_5 (by decide) (fun _ => ?_) (fun c9 => absurd (by decide) c9)
  refine lv_bipush (v := (-2)) hx hb dX12_canHear_20 (by decide) ?_
  exact W.iret (v := (-2)) hx hb hr (fun t ht hW => ⟨(-2), rfl, rfl, ht⟩) (fun _ h => absurd h List.not_mem_nil) dX12_canHear_22
set_option maxHeartbeats 1000000 in
set_option maxRecDepth 100000 in
theorem rt_X12_word (l : Launch) (dC : Nat → ClassId) (dI : Nat → Nat → Nat) (h0 : Nat) (am : Nat → Nat) (p0 p1 : Int32) : Met l yX12_word wsX12_word ({ frames := 1, cells := 0, slots := 0, locals := 21 }) (va_Pc [.ref h0, .int p0, .int p1] (fun U => va_P (dC, dI) vwCl [(h0, .inr (12, [.int 0, .int 0, .ref (am 2), .ref (am 3), .ref (am 4), .int 0, .ref (am 6), .ref (am 7), .ref (am 8), .int 0, .ref (am 10), .ref (am 11), .ref (am 12), .ref (am 13), .ref (am 14), .ref (am 15), .int 0, .ref (am 17), .ref (am 18), .ref (am 19), .ref (am 20), .int 0, .ref (am 22), .int 0, .ref (am 24), .ref (am 25), .ref (am 26), .ref (am 27), .ref (am 28), .ref (am 29), .int 0, .ref (am 31), .ref (am 32), .ref (am 33), .int 0, .ref (am 35), .int 0, .ref (am 37), .ref (am 38), .ref (am 39), .ref (am 40), .ref (am 41), .ref (am 42), .ref (am 43), .int 0, .ref (am 45), .ref (am 46), .ref (am 47), .int 0, .ref (am 49), .int 0, .ref (am 51), .int 0, .ref (am 53), .ref (am 54), .int 1, .int 0, .ref (am 57), .long 0, .ref (am 59), .ref (am 60), .long 0, .int 0, .int 0, .int 0, .int 0, .int 0, .int 0, .ref (am 68), .int 0, .int 0, .ref (am 71), .ref (am 72), .ref (am 73), .ref (am 74), .ref (am 75), .ref (am 76), .ref (am 77), .ref (am 78)]))] U.heap ∧ va_K (dC, dI) vwCl [] U)) (vp_Si (fun r : Int32 => r = (-3))) 0 0 (fun _ => False) := by
  refine Met.ofW (cc := cX12_word) (maxL := 6) (ret := (some .int)) (by decide) rfl ?_
  intro p e s m args below meth c s₁ B hml hv
  obtain ⟨rfl, hP, hK⟩ := hv
  have hx := B.exec
  have hb := B.bytes
  have hr := B.returns
  have hts := atoms_spec (ws := wsX12_word) B.pre
  have hown : s.vm.findClass RX12 = some m.cls := findClass_of_methodNamed B.named
  have hlocks := B.notSynchronized
  have hl := lv_entry ([.ref h0, .int p0, .int p1]) (n := 6) (Nat.le_of_ble_eq_true rfl)
  rw [lg_entry_eq]
  generalize (lg_sl ([.ref h0, .int p0, .int p1]) ++ List.replicate (6 - (lg_sl ([.ref h0, .int p0, .int p1])).length) Slot.unset).toArray = ls at hl ⊢
  have hl : lv_has ls 6 [(0, .ref h0), (1, .int p0), (2, .int p1)] := hl
  refine lv_aload_n hx hb dX12_word_0 rfl (lv_at hl 0 rfl) ?_
  refine lv_iload_n hx hb dX12_word_1 rfl (lv_at hl 1 rfl) ?_
  have hPc := hP.sub (ws' := [(h0, .inr (12, [.int 0, .int 0, .ref (am 2), .ref (am 3), .ref (am 4), .int 0, .ref (am 6), .ref (am 7), .ref (am 8), .int 0, .ref (am 10), .ref (am 11), .ref (am 12), .ref (am 13), .ref (am 14), .ref (am 15), .int 0, .ref (am 17), .ref (am 18), .ref (am 19), .ref (am 20), .int 0, .ref (am 22), .int 0, .ref (am 24), .ref (am 25), .ref (am 26), .ref (am 27), .ref (am 28), .ref (am 29), .int 0, .ref (am 31), .ref (am 32), .ref (am 33), .int 0, .ref (am 35), .int 0, .ref (am 37), .ref (am 38), .ref (am 39), .ref (am 40), .ref (am 41), .ref (am 42), .ref (am 43), .int 0, .ref (am 45), .ref (am 46), .ref (am 47), .int 0, .ref (am 49), .int 0, .ref (am 51), .int 0, .ref (am 53), .ref (am 54), .int 1, .int 0, .ref (am 57), .long 0, .ref (am 59), .ref (am 60), .long 0, .int 0, .int 0, .int 0, .int 0, .int 0, .int 0, .ref (am 68), .int 0, .int 0, .ref (am 71), .ref (am 72), .ref (am 73), .ref (am 74), .ref (am 75), .ref (am 76), .ref (am 77), .ref (am 78)]))]) [0] rfl
  have hKc := hK.sub (tys' := []) [] rfl
  refine vp_callSi (va_Run.run (va_runV (As := [.int p0]) (rest := []) ⟨hx, hb, hml, hown, hts⟩ (rt_X12_isCall l dC dI h0 am p0) (cwV 1 hts gX12_word_X12_isCall rfl rfl rfl (by decide +kernel) ⟨Nat.le_of_ble_eq_true rfl, Nat.le_of_ble_eq_true rfl⟩) ⟨fun a U g mk q => by obtain ⟨q0, qP, qK⟩ := q; exact ⟨q0, qP, va_K.moved (u := U) (U := U.calling g mk a) (Vm.Alike.refl U.vm) qK⟩, va_recv hKc hPc (ci := 12) (q0 := 0) rfl rfl, fun U hU hW => ⟨rfl, by rw [hU]; exact hPc, va_K.moved hW.alike hKc⟩⟩ rfl rfl hl.1 rfl (lv_room (Nat.le_of_ble_eq_true rfl)) dX12_word_2 ⟨by decide +kernel, by decide +kernel⟩)) (fun r_1 hr_1 => ?_)
  obtain rfl := hr_1
  refine lv_if_eq (tgt := 18) hx hb dX12_word_5 (by decide) (fun _ => ?_) (fun c9 => absurd (by decide) c9)
  refine lv_bipush (v := (-3)) hx hb dX12_word_18 (by decide) ?_
  exact W.iret (v := (-3)) hx hb hr (fun t ht hW => ⟨(-3), rfl, rfl, ht⟩) (fun _ h => absurd h List.not_mem_nil) dX12_word_20
set_option maxHeartbeats 1000000 in
set_option maxRecDepth 100000 in
theorem rt_X12_isTrue (l : Launch) (dC : Nat → ClassId) (dI : Nat → Nat → Nat) (h0 : Nat) (am : Nat → Nat) (p0 : Int32) : Met l yX12_isTrue wsX12_isTrue ({ frames := 0, cells := 0, slots := 0, locals := 0 }) (va_Pc [.ref h0, .int p0] (fun U => va_P (dC, dI) vwCl [(h0, .inr (12, [.int 0, .int 0, .ref (am 2), .ref (am 3), .ref (am 4), .int 0, .ref (am 6), .ref (am 7), .ref (am 8), .int 0, .ref (am 10), .ref (am 11), .ref (am 12), .ref (am 13), .ref (am 14), .ref (am 15), .int 0, .ref (am 17), .ref (am 18), .ref (am 19), .ref (am 20), .int 0, .ref (am 22), .int 0, .ref (am 24), .ref (am 25), .ref (am 26), .ref (am 27), .ref (am 28), .ref (am 29), .int 0, .ref (am 31), .ref (am 32), .ref (am 33), .int 0, .ref (am 35), .int 0, .ref (am 37), .ref (am 38), .ref (am 39), .ref (am 40), .ref (am 41), .ref (am 42), .ref (am 43), .int 0, .ref (am 45), .ref (am 46), .ref (am 47), .int 0, .ref (am 49), .int 0, .ref (am 51), .int 0, .ref (am 53), .ref (am 54), .int 1, .int 0, .ref (am 57), .long 0, .ref (am 59), .ref (am 60), .long 0, .int 0, .int 0, .int 0, .int 0, .int 0, .int 0, .ref (am 68), .int 0, .int 0, .ref (am 71), .ref (am 72), .ref (am 73), .ref (am 74), .ref (am 75), .ref (am 76), .ref (am 77), .ref (am 78)]))] U.heap ∧ va_K (dC, dI) vwCl [] U)) (vp_Si (fun r : Int32 => r = (-2))) 0 0 (fun _ => False) := by
  refine Met.ofW (cc := cX12_isTrue) (maxL := 5) (ret := (some .int)) (by decide) rfl ?_
  intro p e s m args below meth c s₁ B hml hv
  obtain ⟨rfl, hP, hK⟩ := hv
  have hx := B.exec
  have hb := B.bytes
  have hr := B.returns
  have hts := atoms_spec (ws := wsX12_isTrue) B.pre
  have hown : s.vm.findClass RX12 = some m.cls := findClass_of_methodNamed B.named
  have hlocks := B.notSynchronized
  have hl := lv_entry ([.ref h0, .int p0]) (n := 5) (Nat.le_of_ble_eq_true rfl)
  rw [lg_entry_eq]
  generalize (lg_sl ([.ref h0, .int p0]) ++ List.replicate (5 - (lg_sl ([.ref h0, .int p0])).length) Slot.unset).toArray = ls at hl ⊢
  have hl : lv_has ls 5 [(0, .ref h0), (1, .int p0)] := hl
  refine lv_iload_n hx hb dX12_isTrue_0 rfl (lv_at hl 1 rfl) ?_
  refine lv_if_lt (tgt := 12) hx hb dX12_isTrue_1 (by decide) (fun c_1 => ?_) (fun c_1 => ?_)
  · refine lv_bipush (v := (-2)) hx hb dX12_isTrue_12 (by decide) ?_
    exact W.iret (v := (-2)) hx hb hr (fun t ht hW => ⟨(-2), rfl, rfl, ht⟩) (fun _ h => absurd h List.not_mem_nil) dX12_isTrue_14
  · refine lv_iload_n hx hb dX12_isTrue_4 rfl (lv_at hl 1 rfl) ?_
    refine lv_aload_n hx hb dX12_isTrue_5 rfl (lv_at hl 0 rfl) ?_
    refine va_get (D := (dC, dI)) (ci := 12) (v := .int 0) (C := RX12) (T := TX12) (N := 79) hx hb hts (by decide +kernel) hown hK hP 0 rfl rfl 34 (by decide) (hts (.fieldLink RX12 263 "RedTentModel" "parts" "I") (by decide +kernel)) (fun _ h9 => h9) rfl dX12_isTrue_6 ?_
    refine lv_icmp_lt (tgt := 15) hx hb dX12_isTrue_9 (by decide) (fun c9 => absurd c9 (by (try simp only [fa_lt, fa_le, fa_eq, fa_lt64, fa_le64, fa_eq64, Int32.reduceToInt, Int64.reduceToInt, zi_ite] at c_1 ⊢) <;> omega)) (fun _ => ?_)
    refine lv_bipush (v := (-2)) hx hb dX12_isTrue_12 (by decide) ?_
    exact W.iret (v := (-2)) hx hb hr (fun t ht hW => ⟨(-2), rfl, rfl, ht⟩) (fun _ h => absurd h List.not_mem_nil) dX12_isTrue_14
set_option maxHeartbeats 1000000 in
set_option maxRecDepth 100000 in
theorem rt_X12_says (l : Launch) (dC : Nat → ClassId) (dI : Nat → Nat → Nat) (h0 : Nat) (am : Nat → Nat) (p0 p1 p2 : Int32) : Met l yX12_says wsX12_says ({ frames := 2, cells := 0, slots := 0, locals := 42 }) (va_Pc [.ref h0, .int p0, .int p1, .int p2] (fun U => va_P (dC, dI) vwCl [(h0, .inr (12, [.int 0, .int 0, .ref (am 2), .ref (am 3), .ref (am 4), .int 0, .ref (am 6), .ref (am 7), .ref (am 8), .int 0, .ref (am 10), .ref (am 11), .ref (am 12), .ref (am 13), .ref (am 14), .ref (am 15), .int 0, .ref (am 17), .ref (am 18), .ref (am 19), .ref (am 20), .int 0, .ref (am 22), .int 0, .ref (am 24), .ref (am 25), .ref (am 26), .ref (am 27), .ref (am 28), .ref (am 29), .int 0, .ref (am 31), .ref (am 32), .ref (am 33), .int 0, .ref (am 35), .int 0, .ref (am 37), .ref (am 38), .ref (am 39), .ref (am 40), .ref (am 41), .ref (am 42), .ref (am 43), .int 0, .ref (am 45), .ref (am 46), .ref (am 47), .int 0, .ref (am 49), .int 0, .ref (am 51), .int 0, .ref (am 53), .ref (am 54), .int 1, .int 0, .ref (am 57), .long 0, .ref (am 59), .ref (am 60), .long 0, .int 0, .int 0, .int 0, .int 0, .int 0, .int 0, .ref (am 68), .int 0, .int 0, .ref (am 71), .ref (am 72), .ref (am 73), .ref (am 74), .ref (am 75), .ref (am 76), .ref (am 77), .ref (am 78)]))] U.heap ∧ va_K (dC, dI) vwCl [] U)) (vp_Sl (fun r : Int64 => r = (-4611686018427387904))) 0 0 (fun _ => False) := by
  refine Met.ofW (cc := cX12_says) (maxL := 4) (ret := (some .long)) (by decide) rfl ?_
  intro p e s m args below meth c s₁ B hml hv
  obtain ⟨rfl, hP, hK⟩ := hv
  have hx := B.exec
  have hb := B.bytes
  have hr := B.returns
  have hts := atoms_spec (ws := wsX12_says) B.pre
  have hown : s.vm.findClass RX12 = some m.cls := findClass_of_methodNamed B.named
  have hlocks := B.notSynchronized
  have hl := lv_entry ([.ref h0, .int p0, .int p1, .int p2]) (n := 4) (Nat.le_of_ble_eq_true rfl)
  rw [lg_entry_eq]
  generalize (lg_sl ([.ref h0, .int p0, .int p1, .int p2]) ++ List.replicate (4 - (lg_sl ([.ref h0, .int p0, .int p1, .int p2])).length) Slot.unset).toArray = ls at hl ⊢
  have hl : lv_has ls 4 [(0, .ref h0), (1, .int p0), (2, .int p1), (3, .int p2)] := hl
  refine lv_iload_n hx hb dX12_says_0 rfl (lv_at hl 1 rfl) ?_
  refine lv_if_ne (tgt := 23) hx hb dX12_says_1 (by decide) (fun c_1 => ?_) (fun c_1 => ?_)
  · refine lv_iload_n hx hb dX12_says_23 rfl (lv_at hl 1 rfl) ?_
    refine lv_iconst (v := 1) hx hb dX12_says_24 (by decide) ?_
    refine lv_icmp_ne (tgt := 54) hx hb dX12_says_25 (by decide) (fun c_2 => ?_) (fun c_2 => ?_)
    · refine lv_ldc2 (v := (-4611686018427387904)) hx hb hown (hts (.constantLong RX12 236 (-4611686018427387904)) (by decide +kernel)) dX12_says_54 ?_
      exact W.lret (v := (-4611686018427387904)) hx hb hr (fun t ht hW => ⟨(-4611686018427387904), rfl, rfl, ht⟩) (fun _ h => absurd h List.not_mem_nil) dX12_says_57
    · refine lv_aload_n hx hb dX12_says_28 rfl (lv_at hl 0 rfl) ?_
      refine lv_iload_n hx hb dX12_says_29 rfl (lv_at hl 2 rfl) ?_
      have hPc := hP.sub (ws' := [(h0, .inr (12, [.int 0, .int 0, .ref (am 2), .ref (am 3), .ref (am 4), .int 0, .ref (am 6), .ref (am 7), .ref (am 8), .int 0, .ref (am 10), .ref (am 11), .ref (am 12), .ref (am 13), .ref (am 14), .ref (am 15), .int 0, .ref (am 17), .ref (am 18), .ref (am 19), .ref (am 20), .int 0, .ref (am 22), .int 0, .ref (am 24), .ref (am 25), .ref (am 26), .ref (am 27), .ref (am 28), .ref (am 29), .int 0, .ref (am 31), .ref (am 32), .ref (am 33), .int 0, .ref (am 35), .int 0, .ref (am 37), .ref (am 38), .ref (am 39), .ref (am 40), .ref (am 41), .ref (am 42), .ref (am 43), .int 0, .ref (am 45), .ref (am 46), .ref (am 47), .int 0, .ref (am 49), .int 0, .ref (am 51), .int 0, .ref (am 53), .ref (am 54), .int 1, .int 0, .ref (am 57), .long 0, .ref (am 59), .ref (am 60), .long 0, .int 0, .int 0, .int 0, .int 0, .int 0, .int 0, .ref (am 68), .int 0, .int 0, .ref (am 71), .ref (am 72), .ref (am 73), .ref (am 74), .ref (am 75), .ref (am 76), .ref (am 77), .ref (am 78)]))]) [0] rfl
      have hKc := hK.sub (tys' := []) [] rfl
      refine vp_callSi (va_Run.run (va_runV (As := [.int p1]) (rest := []) ⟨hx, hb, hml, hown, hts⟩ (rt_X12_isSeeker l dC dI h0 am p1) (cwV 1 hts gX12_says_X12_isSeeker rfl rfl rfl (by decide +kernel) ⟨Nat.le_of_ble_eq_true rfl, Nat.le_of_ble_eq_true rfl⟩) ⟨fun a U g mk q => by obtain ⟨q0, qP, qK⟩ := q; exact ⟨q0, qP, va_K.moved (u := U) (U := U.calling g mk a) (Vm.Alike.refl U.vm) qK⟩, va_recv hKc hPc (ci := 12) (q0 := 0) rfl rfl, fun U hU hW => ⟨rfl, by rw [hU]; exact hPc, va_K.moved hW.alike hKc⟩⟩ rfl rfl hl.1 rfl (lv_room (Nat.le_of_ble_eq_true rfl)) dX12_says_30 ⟨by decide +kernel, by decide +kernel⟩)) (fun r_3 hr_3 => ?_)
      obtain rfl := hr_3
      refine lv_if_eq (tgt := 54) hx hb dX12_says_33 (by decide) (fun _ => ?_) (fun c9 => absurd (by decide) c9)
      refine lv_ldc2 (v := (-4611686018427387904)) hx hb hown (hts (.constantLong RX12 236 (-4611686018427387904)) (by decide +kernel)) dX12_says_54 ?_
      exact W.lret (v := (-4611686018427387904)) hx hb hr (fun t ht hW => ⟨(-4611686018427387904), rfl, rfl, ht⟩) (fun _ h => absurd h List.not_mem_nil) dX12_says_57
  · refine lv_iload_n hx hb dX12_says_4 rfl (lv_at hl 2 rfl) ?_
    refine lv_if_lt (tgt := 23) hx hb dX12_says_5 (by decide) (fun c_4 => ?_) (fun c_4 => ?_)
    · refine lv_iload_n hx hb dX12_says_23 rfl (lv_at hl 1 rfl) ?_
      refine lv_iconst (v := 1) hx hb dX12_says_24 (by decide) ?_
      refine lv_icmp_ne (tgt := 54) hx hb dX12_says_25 (by decide) (fun _ => ?_) (fun c9 => absurd c9 (by (try simp only [fa_lt, fa_le, fa_eq, fa_lt64, fa_le64, fa_eq64, Int32.reduceToInt, Int64.reduceToInt, zi_ite] at c_1 c_4 ⊢) <;> omega))
      refine lv_ldc2 (v := (-4611686018427387904)) hx hb hown (hts (.constantLong RX12 236 (-4611686018427387904)) (by decide +kernel)) dX12_says_54 ?_
      exact W.lret (v := (-4611686018427387904)) hx hb hr (fun t ht hW => ⟨(-4611686018427387904), rfl, rfl, ht⟩) (fun _ h => absurd h List.not_mem_nil) dX12_says_57
    · refine lv_iload_n hx hb dX12_says_8 rfl (lv_at hl 2 rfl) ?_
      refine lv_aload_n hx hb dX12_says_9 rfl (lv_at hl 0 rfl) ?_
      refine va_get (D := (dC, dI)) (ci := 12) (v := .int 0) (C := RX12) (T := TX12) (N := 79) hx hb hts (by decide +kernel) hown hK hP 0 rfl rfl 44 (by decide) (hts (.fieldLink RX12 320 "RedTentModel" "men" "I") (by decide +kernel)) (fun _ h9 => h9) rfl dX12_says_10 ?_
      refine lv_icmp_ge (tgt := 23) hx hb dX12_says_13 (by decide) (fun _ => ?_) (fun c9 => absurd (by (try simp only [fa_lt, fa_le, fa_eq, fa_lt64, fa_le64, fa_eq64, Int32.reduceToInt, Int64.reduceToInt, zi_ite] at c_1 c_4 ⊢) <;> omega) c9)
      refine lv_iload_n hx hb dX12_says_23 rfl (lv_at hl 1 rfl) ?_
      refine lv_iconst (v := 1) hx hb dX12_says_24 (by decide) ?_
      refine lv_icmp_ne (tgt := 54) hx hb dX12_says_25 (by decide) (fun _ => ?_) (fun c9 => absurd c9 (by (try simp only [fa_lt, fa_le, fa_eq, fa_lt64, fa_le64, fa_eq64, Int32.reduceToInt, Int64.reduceToInt, zi_ite] at c_1 c_4 ⊢) <;> omega))
      refine lv_ldc2 (v := (-4611686018427387904)) hx hb hown (hts (.constantLong RX12 236 (-4611686018427387904)) (by decide +kernel)) dX12_says_54 ?_
      exact W.lret (v := (-4611686018427387904)) hx hb hr (fun t ht hW => ⟨(-4611686018427387904), rfl, rfl, ht⟩) (fun _ h => absurd h List.not_mem_nil) dX12_says_57
set_option maxHeartbeats 1000000 in
set_option maxRecDepth 100000 in
theorem rt_X12_unfit (l : Launch) (dC : Nat → ClassId) (dI : Nat → Nat → Nat) (h0 : Nat) (am : Nat → Nat) : Met l yX12_unfit wsX12_unfit ({ frames := 0, cells := 0, slots := 0, locals := 0 }) (va_Pc [.ref h0] (fun U => va_P (dC, dI) vwCl [(h0, .inr (12, [.int 0, .int 0, .ref (am 2), .ref (am 3), .ref (am 4), .int 0, .ref (am 6), .ref (am 7), .ref (am 8), .int 0, .ref (am 10), .ref (am 11), .ref (am 12), .ref (am 13), .ref (am 14), .ref (am 15), .int 0, .ref (am 17), .ref (am 18), .ref (am 19), .ref (am 20), .int 0, .ref (am 22), .int 0, .ref (am 24), .ref (am 25), .ref (am 26), .ref (am 27), .ref (am 28), .ref (am 29), .int 0, .ref (am 31), .ref (am 32), .ref (am 33), .int 0, .ref (am 35), .int 0, .ref (am 37), .ref (am 38), .ref (am 39), .ref (am 40), .ref (am 41), .ref (am 42), .ref (am 43), .int 0, .ref (am 45), .ref (am 46), .ref (am 47), .int 0, .ref (am 49), .int 0, .ref (am 51), .int 0, .ref (am 53), .ref (am 54), .int 1, .int 0, .ref (am 57), .long 0, .ref (am 59), .ref (am 60), .long 0, .int 0, .int 0, .int 0, .int 0, .int 0, .int 0, .ref (am 68), .int 0, .int 0, .ref (am 71), .ref (am 72), .ref (am 73), .ref (am 74), .ref (am 75), .ref (am 76), .ref (am 77), .ref (am 78)]))] U.heap ∧ va_K (dC, dI) vwCl [] U)) (vp_Si (fun r : Int32 => r = 0)) 0 0 (fun _ => False) := by
  refine Met.ofW (cc := cX12_unfit) (maxL := 5) (ret := (some .int)) (by decide) rfl ?_
  intro p e s m args below meth c s₁ B hml hv
  obtain ⟨rfl, hP, hK⟩ := hv
  have hx := B.exec
  have hb := B.bytes
  have hr := B.returns
  have hts := atoms_spec (ws := wsX12_unfit) B.pre
  have hown : s.vm.findClass RX12 = some m.cls := findClass_of_methodNamed B.named
  have hlocks := B.notSynchronized
  have hl := lv_entry ([.ref h0]) (n := 5) (Nat.le_of_ble_eq_true rfl)
  rw [lg_entry_eq]
  generalize (lg_sl ([.ref h0]) ++ List.replicate (5 - (lg_sl ([.ref h0])).length) Slot.unset).toArray = ls at hl ⊢
  have hl : lv_has ls 5 [(0, .ref h0)] := hl
  refine lv_iconst (v := 0) hx hb dX12_unfit_0 (by decide) ?_
  refine lv_istore_n (lv' := [(1, .int 0), (0, .ref h0)]) hx hb dX12_unfit_1 rfl hl (by decide) rfl (fun ls hl => ?_)
  refine lv_iconst (v := 0) hx hb dX12_unfit_2 (by decide) ?_
  refine lv_istore_n (lv' := [(2, .int 0), (1, .int 0), (0, .ref h0)]) hx hb dX12_unfit_3 rfl hl (by decide) rfl (fun ls hl => ?_)
  refine lv_iload_n hx hb dX12_unfit_4 rfl (lv_at hl 0 rfl) ?_
  refine lv_aload_n hx hb dX12_unfit_5 rfl (lv_at hl 2 rfl) ?_
  refine va_get (D := (dC, dI)) (ci := 12) (v := .int 0) (C := RX12) (T := TX12) (N := 79) hx hb hts (by decide +kernel) hown hK hP 0 rfl rfl 48 (by decide) (hts (.fieldLink RX12 440 "RedTentModel" "stories" "I") (by decide +kernel)) (fun _ h9 => h9) rfl dX12_unfit_6 ?_
  refine lv_icmp_ge (tgt := 64) hx hb dX12_unfit_9 (by decide) (fun _ => ?_) (fun c9 => absurd (by decide) c9)
  refine lv_iload_n hx hb dX12_unfit_64 rfl (lv_at hl 1 rfl) ?_
  exact W.iret (v := 0) hx hb hr (fun t ht hW => ⟨0, rfl, rfl, ht⟩) (fun _ h => absurd h List.not_mem_nil) dX12_unfit_65
set_option maxHeartbeats 1000000 in
set_option maxRecDepth 100000 in
theorem rt_X12_clash (l : Launch) (dC : Nat → ClassId) (dI : Nat → Nat → Nat) (h0 : Nat) (am : Nat → Nat) (p0 p1 : Int32) : Met l yX12_clash wsX12_clash ({ frames := 1, cells := 0, slots := 0, locals := 21 }) (va_Pc [.ref h0, .int p0, .int p1] (fun U => va_P (dC, dI) vwCl [(h0, .inr (12, [.int 0, .int 0, .ref (am 2), .ref (am 3), .ref (am 4), .int 0, .ref (am 6), .ref (am 7), .ref (am 8), .int 0, .ref (am 10), .ref (am 11), .ref (am 12), .ref (am 13), .ref (am 14), .ref (am 15), .int 0, .ref (am 17), .ref (am 18), .ref (am 19), .ref (am 20), .int 0, .ref (am 22), .int 0, .ref (am 24), .ref (am 25), .ref (am 26), .ref (am 27), .ref (am 28), .ref (am 29), .int 0, .ref (am 31), .ref (am 32), .ref (am 33), .int 0, .ref (am 35), .int 0, .ref (am 37), .ref (am 38), .ref (am 39), .ref (am 40), .ref (am 41), .ref (am 42), .ref (am 43), .int 0, .ref (am 45), .ref (am 46), .ref (am 47), .int 0, .ref (am 49), .int 0, .ref (am 51), .int 0, .ref (am 53), .ref (am 54), .int 1, .int 0, .ref (am 57), .long 0, .ref (am 59), .ref (am 60), .long 0, .int 0, .int 0, .int 0, .int 0, .int 0, .int 0, .ref (am 68), .int 0, .int 0, .ref (am 71), .ref (am 72), .ref (am 73), .ref (am 74), .ref (am 75), .ref (am 76), .ref (am 77), .ref (am 78)]))] U.heap ∧ va_K (dC, dI) vwCl [] U)) (vp_Si (fun r : Int32 => r = (-2))) 0 0 (fun _ => False) := by
  refine Met.ofW (cc := cX12_clash) (maxL := 8) (ret := (some .int)) (by decide) rfl ?_
  intro p e s m args below meth c s₁ B hml hv
  obtain ⟨rfl, hP, hK⟩ := hv
  have hx := B.exec
  have hb := B.bytes
  have hr := B.returns
  have hts := atoms_spec (ws := wsX12_clash) B.pre
  have hown : s.vm.findClass RX12 = some m.cls := findClass_of_methodNamed B.named
  have hlocks := B.notSynchronized
  have hl := lv_entry ([.ref h0, .int p0, .int p1]) (n := 8) (Nat.le_of_ble_eq_true rfl)
  rw [lg_entry_eq]
  generalize (lg_sl ([.ref h0, .int p0, .int p1]) ++ List.replicate (8 - (lg_sl ([.ref h0, .int p0, .int p1])).length) Slot.unset).toArray = ls at hl ⊢
  have hl : lv_has ls 8 [(0, .ref h0), (1, .int p0), (2, .int p1)] := hl
  refine lv_aload_n hx hb dX12_clash_0 rfl (lv_at hl 0 rfl) ?_
  refine lv_iload_n hx hb dX12_clash_1 rfl (lv_at hl 1 rfl) ?_
  have hPc := hP.sub (ws' := [(h0, .inr (12, [.int 0, .int 0, .ref (am 2), .ref (am 3), .ref (am 4), .int 0, .ref (am 6), .ref (am 7), .ref (am 8), .int 0, .ref (am 10), .ref (am 11), .ref (am 12), .ref (am 13), .ref (am 14), .ref (am 15), .int 0, .ref (am 17), .ref (am 18), .ref (am 19), .ref (am 20), .int 0, .ref (am 22), .int 0, .ref (am 24), .ref (am 25), .ref (am 26), .ref (am 27), .ref (am 28), .ref (am 29), .int 0, .ref (am 31), .ref (am 32), .ref (am 33), .int 0, .ref (am 35), .int 0, .ref (am 37), .ref (am 38), .ref (am 39), .ref (am 40), .ref (am 41), .ref (am 42), .ref (am 43), .int 0, .ref (am 45), .ref (am 46), .ref (am 47), .int 0, .ref (am 49), .int 0, .ref (am 51), .int 0, .ref (am 53), .ref (am 54), .int 1, .int 0, .ref (am 57), .long 0, .ref (am 59), .ref (am 60), .long 0, .int 0, .int 0, .int 0, .int 0, .int 0, .int 0, .ref (am 68), .int 0, .int 0, .ref (am 71), .ref (am 72), .ref (am 73), .ref (am 74), .ref (am 75), .ref (am 76), .ref (am 77), .ref (am 78)]))]) [0] rfl
  have hKc := hK.sub (tys' := []) [] rfl
  refine vp_callSi (va_Run.run (va_runV (As := [.int p0]) (rest := []) ⟨hx, hb, hml, hown, hts⟩ (rt_X12_isStory l dC dI h0 am p0) (cwV 1 hts gX12_clash_X12_isStory rfl rfl rfl (by decide +kernel) ⟨Nat.le_of_ble_eq_true rfl, Nat.le_of_ble_eq_true rfl⟩) ⟨fun a U g mk q => by obtain ⟨q0, qP, qK⟩ := q; exact ⟨q0, qP, va_K.moved (u := U) (U := U.calling g mk a) (Vm.Alike.refl U.vm) qK⟩, va_recv hKc hPc (ci := 12) (q0 := 0) rfl rfl, fun U hU hW => ⟨rfl, by rw [hU]; exact hPc, va_K.moved hW.alike hKc⟩⟩ rfl rfl hl.1 rfl (lv_room (Nat.le_of_ble_eq_true rfl)) dX12_clash_2 ⟨by decide +kernel, by decide +kernel⟩)) (fun r_1 hr_1 => ?_)
  obtain rfl := hr_1
  refine lv_if_eq (tgt := 36) hx hb dX12_clash_5 (by decide) (fun _ => ?_) (fun c9 => absurd (by decide) c9)
  refine lv_bipush (v := (-2)) hx hb dX12_clash_36 (by decide) ?_
  exact W.iret (v := (-2)) hx hb hr (fun t ht hW => ⟨(-2), rfl, rfl, ht⟩) (fun _ h => absurd h List.not_mem_nil) dX12_clash_38
set_option maxHeartbeats 1000000 in
set_option maxRecDepth 100000 in
theorem rt_X12_fixes (l : Launch) (dC : Nat → ClassId) (dI : Nat → Nat → Nat) (h0 : Nat) (am : Nat → Nat) (p0 p1 p2 p3 p4 : Int32) : Met l yX12_fixes wsX12_fixes ({ frames := 1, cells := 0, slots := 0, locals := 21 }) (va_Pc [.ref h0, .int p0, .int p1, .int p2, .int p3, .int p4] (fun U => va_P (dC, dI) vwCl [(h0, .inr (12, [.int 0, .int 0, .ref (am 2), .ref (am 3), .ref (am 4), .int 0, .ref (am 6), .ref (am 7), .ref (am 8), .int 0, .ref (am 10), .ref (am 11), .ref (am 12), .ref (am 13), .ref (am 14), .ref (am 15), .int 0, .ref (am 17), .ref (am 18), .ref (am 19), .ref (am 20), .int 0, .ref (am 22), .int 0, .ref (am 24), .ref (am 25), .ref (am 26), .ref (am 27), .ref (am 28), .ref (am 29), .int 0, .ref (am 31), .ref (am 32), .ref (am 33), .int 0, .ref (am 35), .int 0, .ref (am 37), .ref (am 38), .ref (am 39), .ref (am 40), .ref (am 41), .ref (am 42), .ref (am 43), .int 0, .ref (am 45), .ref (am 46), .ref (am 47), .int 0, .ref (am 49), .int 0, .ref (am 51), .int 0, .ref (am 53), .ref (am 54), .int 1, .int 0, .ref (am 57), .long 0, .ref (am 59), .ref (am 60), .long 0, .int 0, .int 0, .int 0, .int 0, .int 0, .int 0, .ref (am 68), .int 0, .int 0, .ref (am 71), .ref (am 72), .ref (am 73), .ref (am 74), .ref (am 75), .ref (am 76), .ref (am 77), .ref (am 78)]))] U.heap ∧ va_K (dC, dI) vwCl [] U)) (vp_Si (fun r : Int32 => r = (-2))) 0 0 (fun _ => False) := by
  refine Met.ofW (cc := cX12_fixes) (maxL := 12) (ret := (some .int)) (by decide) rfl ?_
  intro p e s m args below meth c s₁ B hml hv
  obtain ⟨rfl, hP, hK⟩ := hv
  have hx := B.exec
  have hb := B.bytes
  have hr := B.returns
  have hts := atoms_spec (ws := wsX12_fixes) B.pre
  have hown : s.vm.findClass RX12 = some m.cls := findClass_of_methodNamed B.named
  have hlocks := B.notSynchronized
  have hl := lv_entry ([.ref h0, .int p0, .int p1, .int p2, .int p3, .int p4]) (n := 12) (Nat.le_of_ble_eq_true rfl)
  rw [lg_entry_eq]
  generalize (lg_sl ([.ref h0, .int p0, .int p1, .int p2, .int p3, .int p4]) ++ List.replicate (12 - (lg_sl ([.ref h0, .int p0, .int p1, .int p2, .int p3, .int p4])).length) Slot.unset).toArray = ls at hl ⊢
  have hl : lv_has ls 12 [(0, .ref h0), (1, .int p0), (2, .int p1), (3, .int p2), (4, .int p3), (5, .int p4)] := hl
  refine lv_aload_n hx hb dX12_fixes_0 rfl (lv_at hl 0 rfl) ?_
  refine lv_iload_n hx hb dX12_fixes_1 rfl (lv_at hl 1 rfl) ?_
  have hPc := hP.sub (ws' := [(h0, .inr (12, [.int 0, .int 0, .ref (am 2), .ref (am 3), .ref (am 4), .int 0, .ref (am 6), .ref (am 7), .ref (am 8), .int 0, .ref (am 10), .ref (am 11), .ref (am 12), .ref (am 13), .ref (am 14), .ref (am 15), .int 0, .ref (am 17), .ref (am 18), .ref (am 19), .ref (am 20), .int 0, .ref (am 22), .int 0, .ref (am 24), .ref (am 25), .ref (am 26), .ref (am 27), .ref (am 28), .ref (am 29), .int 0, .ref (am 31), .ref (am 32), .ref (am 33), .int 0, .ref (am 35), .int 0, .ref (am 37), .ref (am 38), .ref (am 39), .ref (am 40), .ref (am 41), .ref (am 42), .ref (am 43), .int 0, .ref (am 45), .ref (am 46), .ref (am 47), .int 0, .ref (am 49), .int 0, .ref (am 51), .int 0, .ref (am 53), .ref (am 54), .int 1, .int 0, .ref (am 57), .long 0, .ref (am 59), .ref (am 60), .long 0, .int 0, .int 0, .int 0, .int 0, .int 0, .int 0, .ref (am 68), .int 0, .int 0, .ref (am 71), .ref (am 72), .ref (am 73), .ref (am 74), .ref (am 75), .ref (am 76), .ref (am 77), .ref (am 78)]))]) [0] rfl
  have hKc := hK.sub (tys' := []) [] rfl
  refine vp_callSi (va_Run.run (va_runV (As := [.int p0]) (rest := []) ⟨hx, hb, hml, hown, hts⟩ (rt_X12_isBody l dC dI h0 am p0) (cwV 1 hts gX12_fixes_X12_isBody rfl rfl rfl (by decide +kernel) ⟨Nat.le_of_ble_eq_true rfl, Nat.le_of_ble_eq_true rfl⟩) ⟨fun a U g mk q => by obtain ⟨q0, qP, qK⟩ := q; exact ⟨q0, qP, va_K.moved (u := U) (U := U.calling g mk a) (Vm.Alike.refl U.vm) qK⟩, va_recv hKc hPc (ci := 12) (q0 := 0) rfl rfl, fun U hU hW => ⟨rfl, by rw [hU]; exact hPc, va_K.moved hW.alike hKc⟩⟩ rfl rfl hl.1 rfl (lv_room (Nat.le_of_ble_eq_true rfl)) dX12_fixes_2 ⟨by decide +kernel, by decide +kernel⟩)) (fun r_1 hr_1 => ?_)
  obtain rfl := hr_1
  refine lv_if_eq (tgt := 35) hx hb dX12_fixes_5 (by decide) (fun _ => ?_) (fun c9 => absurd (by decide) c9)
  refine lv_bipush (v := (-2)) hx hb dX12_fixes_35 (by decide) ?_
  exact W.iret (v := (-2)) hx hb hr (fun t ht hW => ⟨(-2), rfl, rfl, ht⟩) (fun _ h => absurd h List.not_mem_nil) dX12_fixes_37
set_option maxHeartbeats 1000000 in
set_option maxRecDepth 100000 in
theorem rt_X12_fix (l : Launch) (dC : Nat → ClassId) (dI : Nat → Nat → Nat) (h0 : Nat) (am : Nat → Nat) (p0 p1 : Int32) (p2 : Int64) : Met l yX12_fix wsX12_fix ({ frames := 1, cells := 0, slots := 0, locals := 21 }) (va_Pc [.ref h0, .int p0, .int p1, .long p2] (fun U => va_P (dC, dI) vwCl [(h0, .inr (12, [.int 0, .int 0, .ref (am 2), .ref (am 3), .ref (am 4), .int 0, .ref (am 6), .ref (am 7), .ref (am 8), .int 0, .ref (am 10), .ref (am 11), .ref (am 12), .ref (am 13), .ref (am 14), .ref (am 15), .int 0, .ref (am 17), .ref (am 18), .ref (am 19), .ref (am 20), .int 0, .ref (am 22), .int 0, .ref (am 24), .ref (am 25), .ref (am 26), .ref (am 27), .ref (am 28), .ref (am 29), .int 0, .ref (am 31), .ref (am 32), .ref (am 33), .int 0, .ref (am 35), .int 0, .ref (am 37), .ref (am 38), .ref (am 39), .ref (am 40), .ref (am 41), .ref (am 42), .ref (am 43), .int 0, .ref (am 45), .ref (am 46), .ref (am 47), .int 0, .ref (am 49), .int 0, .ref (am 51), .int 0, .ref (am 53), .ref (am 54), .int 1, .int 0, .ref (am 57), .long 0, .ref (am 59), .ref (am 60), .long 0, .int 0, .int 0, .int 0, .int 0, .int 0, .int 0, .ref (am 68), .int 0, .int 0, .ref (am 71), .ref (am 72), .ref (am 73), .ref (am 74), .ref (am 75), .ref (am 76), .ref (am 77), .ref (am 78)]))] U.heap ∧ va_K (dC, dI) vwCl [] U)) (vp_Si (fun r : Int32 => r = (-2))) 0 0 (fun _ => False) := by
  refine Met.ofW (cc := cX12_fix) (maxL := 5) (ret := (some .int)) (by decide) rfl ?_
  intro p e s m args below meth c s₁ B hml hv
  obtain ⟨rfl, hP, hK⟩ := hv
  have hx := B.exec
  have hb := B.bytes
  have hr := B.returns
  have hts := atoms_spec (ws := wsX12_fix) B.pre
  have hown : s.vm.findClass RX12 = some m.cls := findClass_of_methodNamed B.named
  have hlocks := B.notSynchronized
  have hl := lv_entry ([.ref h0, .int p0, .int p1, .long p2]) (n := 5) (Nat.le_of_ble_eq_true rfl)
  rw [lg_entry_eq]
  generalize (lg_sl ([.ref h0, .int p0, .int p1, .long p2]) ++ List.replicate (5 - (lg_sl ([.ref h0, .int p0, .int p1, .long p2])).length) Slot.unset).toArray = ls at hl ⊢
  have hl : lv_has ls 5 [(0, .ref h0), (1, .int p0), (2, .int p1), (3, .long p2)] := hl
  refine lv_aload_n hx hb dX12_fix_0 rfl (lv_at hl 0 rfl) ?_
  refine lv_iload_n hx hb dX12_fix_1 rfl (lv_at hl 1 rfl) ?_
  have hPc := hP.sub (ws' := [(h0, .inr (12, [.int 0, .int 0, .ref (am 2), .ref (am 3), .ref (am 4), .int 0, .ref (am 6), .ref (am 7), .ref (am 8), .int 0, .ref (am 10), .ref (am 11), .ref (am 12), .ref (am 13), .ref (am 14), .ref (am 15), .int 0, .ref (am 17), .ref (am 18), .ref (am 19), .ref (am 20), .int 0, .ref (am 22), .int 0, .ref (am 24), .ref (am 25), .ref (am 26), .ref (am 27), .ref (am 28), .ref (am 29), .int 0, .ref (am 31), .ref (am 32), .ref (am 33), .int 0, .ref (am 35), .int 0, .ref (am 37), .ref (am 38), .ref (am 39), .ref (am 40), .ref (am 41), .ref (am 42), .ref (am 43), .int 0, .ref (am 45), .ref (am 46), .ref (am 47), .int 0, .ref (am 49), .int 0, .ref (am 51), .int 0, .ref (am 53), .ref (am 54), .int 1, .int 0, .ref (am 57), .long 0, .ref (am 59), .ref (am 60), .long 0, .int 0, .int 0, .int 0, .int 0, .int 0, .int 0, .ref (am 68), .int 0, .int 0, .ref (am 71), .ref (am 72), .ref (am 73), .ref (am 74), .ref (am 75), .ref (am 76), .ref (am 77), .ref (am 78)]))]) [0] rfl
  have hKc := hK.sub (tys' := []) [] rfl
  refine vp_callSi (va_Run.run (va_runV (As := [.int p0]) (rest := []) ⟨hx, hb, hml, hown, hts⟩ (rt_X12_isBody l dC dI h0 am p0) (cwV 1 hts gX12_fix_X12_isBody rfl rfl rfl (by decide +kernel) ⟨Nat.le_of_ble_eq_true rfl, Nat.le_of_ble_eq_true rfl⟩) ⟨fun a U g mk q => by obtain ⟨q0, qP, qK⟩ := q; exact ⟨q0, qP, va_K.moved (u := U) (U := U.calling g mk a) (Vm.Alike.refl U.vm) qK⟩, va_recv hKc hPc (ci := 12) (q0 := 0) rfl rfl, fun U hU hW => ⟨rfl, by rw [hU]; exact hPc, va_K.moved hW.alike hKc⟩⟩ rfl rfl hl.1 rfl (lv_room (Nat.le_of_ble_eq_true rfl)) dX12_fix_2 ⟨by decide +kernel, by decide +kernel⟩)) (fun r_1 hr_1 => ?_)
  obtain rfl := hr_1
  refine lv_if_eq (tgt := 35) hx hb dX12_fix_5 (by decide) (fun _ => ?_) (fun c9 => absurd (by decide) c9)
  refine lv_bipush (v := (-2)) hx hb dX12_fix_35 (by decide) ?_
  exact W.iret (v := (-2)) hx hb hr (fun t ht hW => ⟨(-2), rfl, rfl, ht⟩) (fun _ h => absurd h List.not_mem_nil) dX12_fix_37
set_option maxHeartbeats 1000000 in
set_option maxRecDepth 100000 in
theorem rt_X12_call (l : Launch) (dC : Nat → ClassId) (dI : Nat → Nat → Nat) (h0 : Nat) (am : Nat → Nat) (p0 p1 : Int32) (p2 : Int64) : Met l yX12_call wsX12_call ({ frames := 1, cells := 0, slots := 0, locals := 21 }) (va_Pc [.ref h0, .int p0, .int p1, .long p2] (fun U => va_P (dC, dI) vwCl [(h0, .inr (12, [.int 0, .int 0, .ref (am 2), .ref (am 3), .ref (am 4), .int 0, .ref (am 6), .ref (am 7), .ref (am 8), .int 0, .ref (am 10), .ref (am 11), .ref (am 12), .ref (am 13), .ref (am 14), .ref (am 15), .int 0, .ref (am 17), .ref (am 18), .ref (am 19), .ref (am 20), .int 0, .ref (am 22), .int 0, .ref (am 24), .ref (am 25), .ref (am 26), .ref (am 27), .ref (am 28), .ref (am 29), .int 0, .ref (am 31), .ref (am 32), .ref (am 33), .int 0, .ref (am 35), .int 0, .ref (am 37), .ref (am 38), .ref (am 39), .ref (am 40), .ref (am 41), .ref (am 42), .ref (am 43), .int 0, .ref (am 45), .ref (am 46), .ref (am 47), .int 0, .ref (am 49), .int 0, .ref (am 51), .int 0, .ref (am 53), .ref (am 54), .int 1, .int 0, .ref (am 57), .long 0, .ref (am 59), .ref (am 60), .long 0, .int 0, .int 0, .int 0, .int 0, .int 0, .int 0, .ref (am 68), .int 0, .int 0, .ref (am 71), .ref (am 72), .ref (am 73), .ref (am 74), .ref (am 75), .ref (am 76), .ref (am 77), .ref (am 78)]))] U.heap ∧ va_K (dC, dI) vwCl [] U)) (vp_Si (fun r : Int32 => r = (-2))) 0 0 (fun _ => False) := by
  refine Met.ofW (cc := cX12_call) (maxL := 5) (ret := (some .int)) (by decide) rfl ?_
  intro p e s m args below meth c s₁ B hml hv
  obtain ⟨rfl, hP, hK⟩ := hv
  have hx := B.exec
  have hb := B.bytes
  have hr := B.returns
  have hts := atoms_spec (ws := wsX12_call) B.pre
  have hown : s.vm.findClass RX12 = some m.cls := findClass_of_methodNamed B.named
  have hlocks := B.notSynchronized
  have hl := lv_entry ([.ref h0, .int p0, .int p1, .long p2]) (n := 5) (Nat.le_of_ble_eq_true rfl)
  rw [lg_entry_eq]
  generalize (lg_sl ([.ref h0, .int p0, .int p1, .long p2]) ++ List.replicate (5 - (lg_sl ([.ref h0, .int p0, .int p1, .long p2])).length) Slot.unset).toArray = ls at hl ⊢
  have hl : lv_has ls 5 [(0, .ref h0), (1, .int p0), (2, .int p1), (3, .long p2)] := hl
  refine lv_aload_n hx hb dX12_call_0 rfl (lv_at hl 0 rfl) ?_
  refine lv_iload_n hx hb dX12_call_1 rfl (lv_at hl 1 rfl) ?_
  have hPc := hP.sub (ws' := [(h0, .inr (12, [.int 0, .int 0, .ref (am 2), .ref (am 3), .ref (am 4), .int 0, .ref (am 6), .ref (am 7), .ref (am 8), .int 0, .ref (am 10), .ref (am 11), .ref (am 12), .ref (am 13), .ref (am 14), .ref (am 15), .int 0, .ref (am 17), .ref (am 18), .ref (am 19), .ref (am 20), .int 0, .ref (am 22), .int 0, .ref (am 24), .ref (am 25), .ref (am 26), .ref (am 27), .ref (am 28), .ref (am 29), .int 0, .ref (am 31), .ref (am 32), .ref (am 33), .int 0, .ref (am 35), .int 0, .ref (am 37), .ref (am 38), .ref (am 39), .ref (am 40), .ref (am 41), .ref (am 42), .ref (am 43), .int 0, .ref (am 45), .ref (am 46), .ref (am 47), .int 0, .ref (am 49), .int 0, .ref (am 51), .int 0, .ref (am 53), .ref (am 54), .int 1, .int 0, .ref (am 57), .long 0, .ref (am 59), .ref (am 60), .long 0, .int 0, .int 0, .int 0, .int 0, .int 0, .int 0, .ref (am 68), .int 0, .int 0, .ref (am 71), .ref (am 72), .ref (am 73), .ref (am 74), .ref (am 75), .ref (am 76), .ref (am 77), .ref (am 78)]))]) [0] rfl
  have hKc := hK.sub (tys' := []) [] rfl
  refine vp_callSi (va_Run.run (va_runV (As := [.int p0]) (rest := []) ⟨hx, hb, hml, hown, hts⟩ (rt_X12_isBody l dC dI h0 am p0) (cwV 1 hts gX12_call_X12_isBody rfl rfl rfl (by decide +kernel) ⟨Nat.le_of_ble_eq_true rfl, Nat.le_of_ble_eq_true rfl⟩) ⟨fun a U g mk q => by obtain ⟨q0, qP, qK⟩ := q; exact ⟨q0, qP, va_K.moved (u := U) (U := U.calling g mk a) (Vm.Alike.refl U.vm) qK⟩, va_recv hKc hPc (ci := 12) (q0 := 0) rfl rfl, fun U hU hW => ⟨rfl, by rw [hU]; exact hPc, va_K.moved hW.alike hKc⟩⟩ rfl rfl hl.1 rfl (lv_room (Nat.le_of_ble_eq_true rfl)) dX12_call_2 ⟨by decide +kernel, by decide +kernel⟩)) (fun r_1 hr_1 => ?_)
  obtain rfl := hr_1
  refine lv_if_eq (tgt := 15) hx hb dX12_call_5 (by decide) (fun _ => ?_) (fun c9 => absurd (by decide) c9)
  refine lv_bipush (v := (-2)) hx hb dX12_call_15 (by decide) ?_
  exact W.iret (v := (-2)) hx hb hr (fun t ht hW => ⟨(-2), rfl, rfl, ht⟩) (fun _ h => absurd h List.not_mem_nil) dX12_call_17
set_option maxHeartbeats 1000000 in
set_option maxRecDepth 100000 in
theorem rt_X12_part (l : Launch) (dC : Nat → ClassId) (dI : Nat → Nat → Nat) (h0 : Nat) (am : Nat → Nat) (p0 p1 p2 : Int32) (p3 : Int64) : Met l yX12_part wsX12_part ({ frames := 0, cells := 0, slots := 0, locals := 0 }) (va_Pc [.ref h0, .int p0, .int p1, .int p2, .long p3] (fun U => va_P (dC, dI) vwCl [(h0, .inr (12, [.int 0, .int 0, .ref (am 2), .ref (am 3), .ref (am 4), .int 0, .ref (am 6), .ref (am 7), .ref (am 8), .int 0, .ref (am 10), .ref (am 11), .ref (am 12), .ref (am 13), .ref (am 14), .ref (am 15), .int 0, .ref (am 17), .ref (am 18), .ref (am 19), .ref (am 20), .int 0, .ref (am 22), .int 0, .ref (am 24), .ref (am 25), .ref (am 26), .ref (am 27), .ref (am 28), .ref (am 29), .int 0, .ref (am 31), .ref (am 32), .ref (am 33), .int 0, .ref (am 35), .int 0, .ref (am 37), .ref (am 38), .ref (am 39), .ref (am 40), .ref (am 41), .ref (am 42), .ref (am 43), .int 0, .ref (am 45), .ref (am 46), .ref (am 47), .int 0, .ref (am 49), .int 0, .ref (am 51), .int 0, .ref (am 53), .ref (am 54), .int 1, .int 0, .ref (am 57), .long 0, .ref (am 59), .ref (am 60), .long 0, .int 0, .int 0, .int 0, .int 0, .int 0, .int 0, .ref (am 68), .int 0, .int 0, .ref (am 71), .ref (am 72), .ref (am 73), .ref (am 74), .ref (am 75), .ref (am 76), .ref (am 77), .ref (am 78)]))] U.heap ∧ va_K (dC, dI) vwCl [] U)) (vp_Si (fun r : Int32 => r = (-2))) 0 0 (fun _ => False) := by
  refine Met.ofW (cc := cX12_part) (maxL := 6) (ret := (some .int)) (by decide) rfl ?_
  intro p e s m args below meth c s₁ B hml hv
  obtain ⟨rfl, hP, hK⟩ := hv
  have hx := B.exec
  have hb := B.bytes
  have hr := B.returns
  have hts := atoms_spec (ws := wsX12_part) B.pre
  have hown : s.vm.findClass RX12 = some m.cls := findClass_of_methodNamed B.named
  have hlocks := B.notSynchronized
  have hl := lv_entry ([.ref h0, .int p0, .int p1, .int p2, .long p3]) (n := 6) (Nat.le_of_ble_eq_true rfl)
  rw [lg_entry_eq]
  generalize (lg_sl ([.ref h0, .int p0, .int p1, .int p2, .long p3]) ++ List.replicate (6 - (lg_sl ([.ref h0, .int p0, .int p1, .int p2, .long p3])).length) Slot.unset).toArray = ls at hl ⊢
  have hl : lv_has ls 6 [(0, .ref h0), (1, .int p0), (2, .int p1), (3, .int p2), (4, .long p3)] := hl
  refine lv_iload_n hx hb dX12_part_0 rfl (lv_at hl 1 rfl) ?_
  refine lv_if_lt (tgt := 31) hx hb dX12_part_1 (by decide) (fun c_1 => ?_) (fun c_1 => ?_)
  · refine lv_bipush (v := (-2)) hx hb dX12_part_31 (by decide) ?_
    exact W.iret (v := (-2)) hx hb hr (fun t ht hW => ⟨(-2), rfl, rfl, ht⟩) (fun _ h => absurd h List.not_mem_nil) dX12_part_33
  · refine lv_iload_n hx hb dX12_part_4 rfl (lv_at hl 1 rfl) ?_
    refine lv_aload_n hx hb dX12_part_5 rfl (lv_at hl 0 rfl) ?_
    refine va_get (D := (dC, dI)) (ci := 12) (v := .int 0) (C := RX12) (T := TX12) (N := 79) hx hb hts (by decide +kernel) hown hK hP 0 rfl rfl 23 (by decide) (hts (.fieldLink RX12 246 "RedTentModel" "hearers" "I") (by decide +kernel)) (fun _ h9 => h9) rfl dX12_part_6 ?_
    refine lv_icmp_ge (tgt := 31) hx hb dX12_part_9 (by decide) (fun _ => ?_) (fun c9 => absurd (by (try simp only [fa_lt, fa_le, fa_eq, fa_lt64, fa_le64, fa_eq64, Int32.reduceToInt, Int64.reduceToInt, zi_ite] at c_1 ⊢) <;> omega) c9)
    refine lv_bipush (v := (-2)) hx hb dX12_part_31 (by decide) ?_
    exact W.iret (v := (-2)) hx hb hr (fun t ht hW => ⟨(-2), rfl, rfl, ht⟩) (fun _ h => absurd h List.not_mem_nil) dX12_part_33
set_option maxHeartbeats 1000000 in
set_option maxRecDepth 100000 in
theorem rt_X12_taken (l : Launch) (dC : Nat → ClassId) (dI : Nat → Nat → Nat) (h0 : Nat) (am : Nat → Nat) (p0 p1 : Int32) : Met l yX12_taken wsX12_taken ({ frames := 1, cells := 0, slots := 0, locals := 22 }) (va_Pc [.ref h0, .int p0, .int p1] (fun U => va_P (dC, dI) vwCl [(h0, .inr (12, [.int 0, .int 0, .ref (am 2), .ref (am 3), .ref (am 4), .int 0, .ref (am 6), .ref (am 7), .ref (am 8), .int 0, .ref (am 10), .ref (am 11), .ref (am 12), .ref (am 13), .ref (am 14), .ref (am 15), .int 0, .ref (am 17), .ref (am 18), .ref (am 19), .ref (am 20), .int 0, .ref (am 22), .int 0, .ref (am 24), .ref (am 25), .ref (am 26), .ref (am 27), .ref (am 28), .ref (am 29), .int 0, .ref (am 31), .ref (am 32), .ref (am 33), .int 0, .ref (am 35), .int 0, .ref (am 37), .ref (am 38), .ref (am 39), .ref (am 40), .ref (am 41), .ref (am 42), .ref (am 43), .int 0, .ref (am 45), .ref (am 46), .ref (am 47), .int 0, .ref (am 49), .int 0, .ref (am 51), .int 0, .ref (am 53), .ref (am 54), .int 1, .int 0, .ref (am 57), .long 0, .ref (am 59), .ref (am 60), .long 0, .int 0, .int 0, .int 0, .int 0, .int 0, .int 0, .ref (am 68), .int 0, .int 0, .ref (am 71), .ref (am 72), .ref (am 73), .ref (am 74), .ref (am 75), .ref (am 76), .ref (am 77), .ref (am 78)]))] U.heap ∧ va_K (dC, dI) vwCl [] U)) (vp_Si (fun r : Int32 => ((0 ≤ p1 ∧ p1 ≤ 5) ∧ r = (-11)) ∨ ((¬ (0 ≤ p1 ∧ p1 ≤ 5)) ∧ r = (-2)))) 0 0 (fun _ => False) := by
  refine Met.ofW (cc := cX12_taken) (maxL := 3) (ret := (some .int)) (by decide) rfl ?_
  intro p e s m args below meth c s₁ B hml hv
  obtain ⟨rfl, hP, hK⟩ := hv
  have hx := B.exec
  have hb := B.bytes
  have hr := B.returns
  have hts := atoms_spec (ws := wsX12_taken) B.pre
  have hown : s.vm.findClass RX12 = some m.cls := findClass_of_methodNamed B.named
  have hlocks := B.notSynchronized
  have hl := lv_entry ([.ref h0, .int p0, .int p1]) (n := 3) (Nat.le_of_ble_eq_true rfl)
  rw [lg_entry_eq]
  generalize (lg_sl ([.ref h0, .int p0, .int p1]) ++ List.replicate (3 - (lg_sl ([.ref h0, .int p0, .int p1])).length) Slot.unset).toArray = ls at hl ⊢
  have hl : lv_has ls 3 [(0, .ref h0), (1, .int p0), (2, .int p1)] := hl
  refine lv_iload_n hx hb dX12_taken_0 rfl (lv_at hl 2 rfl) ?_
  refine lv_iconst (v := 0) hx hb dX12_taken_1 (by decide) ?_
  refine lv_iconst (v := 5) hx hb dX12_taken_2 (by decide) ?_
  refine vp_callSi (va_Run.run (va_runS (As := [.int p1, .int 0, .int 5]) (rest := []) ⟨hx, hb, hml, hown, hts⟩ (rt_X12_within l p1 0 5) (va_cwS 3 hts gX12_taken_X12_within rfl rfl rfl (by decide +kernel) ⟨Nat.le_of_ble_eq_true rfl, Nat.le_of_ble_eq_true rfl⟩) ⟨fun a U g mk q => q, fun U hU hW => ⟨rfl, trivial⟩⟩ rfl rfl hl.1 rfl (lv_room (Nat.le_of_ble_eq_true rfl)) dX12_taken_3 ⟨by decide +kernel, by decide +kernel⟩)) (fun r_1 hr_1 => ?_)
  rcases hr_1 with ⟨b_2, rfl⟩ | ⟨b_2, rfl⟩
  · refine lv_if_ne (tgt := 12) hx hb dX12_taken_6 (by decide) (fun _ => ?_) (fun c9 => absurd c9 (by decide))
    refine lv_aload_n hx hb dX12_taken_12 rfl (lv_at hl 0 rfl) ?_
    refine lv_iload_n hx hb dX12_taken_13 rfl (lv_at hl 1 rfl) ?_
    have hPc := hP.sub (ws' := [(h0, .inr (12, [.int 0, .int 0, .ref (am 2), .ref (am 3), .ref (am 4), .int 0, .ref (am 6), .ref (am 7), .ref (am 8), .int 0, .ref (am 10), .ref (am 11), .ref (am 12), .ref (am 13), .ref (am 14), .ref (am 15), .int 0, .ref (am 17), .ref (am 18), .ref (am 19), .ref (am 20), .int 0, .ref (am 22), .int 0, .ref (am 24), .ref (am 25), .ref (am 26), .ref (am 27), .ref (am 28), .ref (am 29), .int 0, .ref (am 31), .ref (am 32), .ref (am 33), .int 0, .ref (am 35), .int 0, .ref (am 37), .ref (am 38), .ref (am 39), .ref (am 40), .ref (am 41), .ref (am 42), .ref (am 43), .int 0, .ref (am 45), .ref (am 46), .ref (am 47), .int 0, .ref (am 49), .int 0, .ref (am 51), .int 0, .ref (am 53), .ref (am 54), .int 1, .int 0, .ref (am 57), .long 0, .ref (am 59), .ref (am 60), .long 0, .int 0, .int 0, .int 0, .int 0, .int 0, .int 0, .ref (am 68), .int 0, .int 0, .ref (am 71), .ref (am 72), .ref (am 73), .ref (am 74), .ref (am 75), .ref (am 76), .ref (am 77), .ref (am 78)]))]) [0] rfl
    have hKc := hK.sub (tys' := []) [] rfl
    refine vp_callSi (va_Run.run (va_runV (As := [.int p0]) (rest := []) ⟨hx, hb, hml, hown, hts⟩ (rt_X12_isBody l dC dI h0 am p0) (cwV 1 hts gX12_taken_X12_isBody rfl rfl rfl (by decide +kernel) ⟨Nat.le_of_ble_eq_true rfl, Nat.le_of_ble_eq_true rfl⟩) ⟨fun a U g mk q => by obtain ⟨q0, qP, qK⟩ := q; exact ⟨q0, qP, va_K.moved (u := U) (U := U.calling g mk a) (Vm.Alike.refl U.vm) qK⟩, va_recv hKc hPc (ci := 12) (q0 := 0) rfl rfl, fun U hU hW => ⟨rfl, by rw [hU]; exact hPc, va_K.moved hW.alike hKc⟩⟩ rfl rfl hl.1 rfl (lv_room (Nat.le_of_ble_eq_true rfl)) dX12_taken_14 ⟨by decide +kernel, by decide +kernel⟩)) (fun r_3 hr_3 => ?_)
    obtain rfl := hr_3
    refine lv_if_ne (tgt := 23) hx hb dX12_taken_17 (by decide) (fun c9 => absurd (by decide) c9) (fun _ => ?_)
    refine lv_bipush (v := (-11)) hx hb dX12_taken_20 (by decide) ?_
    have hpost : ((0 ≤ p1 ∧ p1 ≤ 5) ∧ ((-11) : Int32) = (-11)) ∨ ((¬ (0 ≤ p1 ∧ p1 ≤ 5)) ∧ ((-11) : Int32) = (-2)) := by
      try simp only [fa_lt, fa_le, fa_eq, fa_lt64, fa_le64, fa_eq64, Int32.reduceToInt, Int64.reduceToInt, zi_ite] at b_2
      first
      | exact Or.inl ⟨by (try simp only [fa_lt, fa_le, fa_eq, fa_lt64, fa_le64, fa_eq64, Int32.reduceToInt, Int64.reduceToInt, zi_ite]); omega, rfl⟩
      | exact Or.inr (⟨by (try simp only [fa_lt, fa_le, fa_eq, fa_lt64, fa_le64, fa_eq64, Int32.reduceToInt, Int64.reduceToInt, zi_ite]); omega, rfl⟩)
    exact W.iret (v := (-11)) hx hb hr (fun t ht hW => ⟨(-11), rfl, hpost, ht⟩) (fun _ h => absurd h List.not_mem_nil) dX12_taken_22
  · refine lv_if_ne (tgt := 12) hx hb dX12_taken_6 (by decide) (fun c9 => absurd (by decide) c9) (fun _ => ?_)
    refine lv_bipush (v := (-2)) hx hb dX12_taken_9 (by decide) ?_
    have hpost : ((0 ≤ p1 ∧ p1 ≤ 5) ∧ ((-2) : Int32) = (-11)) ∨ ((¬ (0 ≤ p1 ∧ p1 ≤ 5)) ∧ ((-2) : Int32) = (-2)) := by
      try simp only [fa_lt, fa_le, fa_eq, fa_lt64, fa_le64, fa_eq64, Int32.reduceToInt, Int64.reduceToInt, zi_ite] at b_2
      first
      | exact Or.inl ⟨by (try simp only [fa_lt, fa_le, fa_eq, fa_lt64, fa_le64, fa_eq64, Int32.reduceToInt, Int64.reduceToInt, zi_ite]); omega, rfl⟩
      | exact Or.inr (⟨by (try simp only [fa_lt, fa_le, fa_eq, fa_lt64, fa_le64, fa_eq64, Int32.reduceToInt, Int64.reduceToInt, zi_ite]); omega, rfl⟩)
    exact W.iret (v := (-2)) hx hb hr (fun t ht hW => ⟨(-2), rfl, hpost, ht⟩) (fun _ h => absurd h List.not_mem_nil) dX12_taken_11
set_option maxHeartbeats 1000000 in
set_option maxRecDepth 100000 in
theorem rt_X12_pass (l : Launch) (dC : Nat → ClassId) (dI : Nat → Nat → Nat) (sz : Nat) (h0 : Nat) (am : Nat → Nat) (p0 : Int32) : Met l yX12_pass wsX12_pass ({ frames := 1, cells := 0, slots := 0, locals := 22 }) (va_Pc [.ref h0, .int p0] (fun U => U.heap.size = sz ∧ va_P (dC, dI) vwCl [(h0, .inr (12, [.int 0, .int 0, .ref (am 2), .ref (am 3), .ref (am 4), .int 0, .ref (am 6), .ref (am 7), .ref (am 8), .int 0, .ref (am 10), .ref (am 11), .ref (am 12), .ref (am 13), .ref (am 14), .ref (am 15), .int 0, .ref (am 17), .ref (am 18), .ref (am 19), .ref (am 20), .int 0, .ref (am 22), .int 0, .ref (am 24), .ref (am 25), .ref (am 26), .ref (am 27), .ref (am 28), .ref (am 29), .int 0, .ref (am 31), .ref (am 32), .ref (am 33), .int 0, .ref (am 35), .int 0, .ref (am 37), .ref (am 38), .ref (am 39), .ref (am 40), .ref (am 41), .ref (am 42), .ref (am 43), .int 0, .ref (am 45), .ref (am 46), .ref (am 47), .int 0, .ref (am 49), .int 0, .ref (am 51), .int 0, .ref (am 53), .ref (am 54), .int 1, .int 0, .ref (am 57), .long 0, .ref (am 59), .ref (am 60), .long 0, .int 0, .int 0, .int 0, .int 0, .int 0, .int 0, .ref (am 68), .int 0, .int 0, .ref (am 71), .ref (am 72), .ref (am 73), .ref (am 74), .ref (am 75), .ref (am 76), .ref (am 77), .ref (am 78)]))] U.heap ∧ va_K (dC, dI) vwCl [] U ∧ va_D (fun _ => True) [(h0, .inr (12, [.int 0, .int 0, .ref (am 2), .ref (am 3), .ref (am 4), .int 0, .ref (am 6), .ref (am 7), .ref (am 8), .int 0, .ref (am 10), .ref (am 11), .ref (am 12), .ref (am 13), .ref (am 14), .ref (am 15), .int 0, .ref (am 17), .ref (am 18), .ref (am 19), .ref (am 20), .int 0, .ref (am 22), .int 0, .ref (am 24), .ref (am 25), .ref (am 26), .ref (am 27), .ref (am 28), .ref (am 29), .int 0, .ref (am 31), .ref (am 32), .ref (am 33), .int 0, .ref (am 35), .int 0, .ref (am 37), .ref (am 38), .ref (am 39), .ref (am 40), .ref (am 41), .ref (am 42), .ref (am 43), .int 0, .ref (am 45), .ref (am 46), .ref (am 47), .int 0, .ref (am 49), .int 0, .ref (am 51), .int 0, .ref (am 53), .ref (am 54), .int 1, .int 0, .ref (am 57), .long 0, .ref (am 59), .ref (am 60), .long 0, .int 0, .int 0, .int 0, .int 0, .int 0, .int 0, .ref (am 68), .int 0, .int 0, .ref (am 71), .ref (am 72), .ref (am 73), .ref (am 74), .ref (am 75), .ref (am 76), .ref (am 77), .ref (am 78)]))])) (va_Qi (fun (r : Int32) (u : Unit) => match u with | () => ((p0 < 1 ∨ 48 < p0) ∧ r = (-2)) ∨ ((¬ (p0 < 1 ∨ 48 < p0)) ∧ r = p0)) (fun (u : Unit) (t : State) => match u with | () => True) (va_A [(h0, .inr (12, [.int 0, .int 0, .ref (am 2), .ref (am 3), .ref (am 4), .int 0, .ref (am 6), .ref (am 7), .ref (am 8), .int 0, .ref (am 10), .ref (am 11), .ref (am 12), .ref (am 13), .ref (am 14), .ref (am 15), .int 0, .ref (am 17), .ref (am 18), .ref (am 19), .ref (am 20), .int 0, .ref (am 22), .int 0, .ref (am 24), .ref (am 25), .ref (am 26), .ref (am 27), .ref (am 28), .ref (am 29), .int 0, .ref (am 31), .ref (am 32), .ref (am 33), .int 0, .ref (am 35), .int 0, .ref (am 37), .ref (am 38), .ref (am 39), .ref (am 40), .ref (am 41), .ref (am 42), .ref (am 43), .int 0, .ref (am 45), .ref (am 46), .ref (am 47), .int 0, .ref (am 49), .int 0, .ref (am 51), .int 0, .ref (am 53), .ref (am 54), .int 1, .int 0, .ref (am 57), .long 0, .ref (am 59), .ref (am 60), .long 0, .int 0, .int 0, .int 0, .int 0, .int 0, .int 0, .ref (am 68), .int 0, .int 0, .ref (am 71), .ref (am 72), .ref (am 73), .ref (am 74), .ref (am 75), .ref (am 76), .ref (am 77), .ref (am 78)]))] sz)) 0 0 (va_A [(h0, .inr (12, [.int 0, .int 0, .ref (am 2), .ref (am 3), .ref (am 4), .int 0, .ref (am 6), .ref (am 7), .ref (am 8), .int 0, .ref (am 10), .ref (am 11), .ref (am 12), .ref (am 13), .ref (am 14), .ref (am 15), .int 0, .ref (am 17), .ref (am 18), .ref (am 19), .ref (am 20), .int 0, .ref (am 22), .int 0, .ref (am 24), .ref (am 25), .ref (am 26), .ref (am 27), .ref (am 28), .ref (am 29), .int 0, .ref (am 31), .ref (am 32), .ref (am 33), .int 0, .ref (am 35), .int 0, .ref (am 37), .ref (am 38), .ref (am 39), .ref (am 40), .ref (am 41), .ref (am 42), .ref (am 43), .int 0, .ref (am 45), .ref (am 46), .ref (am 47), .int 0, .ref (am 49), .int 0, .ref (am 51), .int 0, .ref (am 53), .ref (am 54), .int 1, .int 0, .ref (am 57), .long 0, .ref (am 59), .ref (am 60), .long 0, .int 0, .int 0, .int 0, .int 0, .int 0, .int 0, .ref (am 68), .int 0, .int 0, .ref (am 71), .ref (am 72), .ref (am 73), .ref (am 74), .ref (am 75), .ref (am 76), .ref (am 77), .ref (am 78)]))] sz) := by
  refine Met.ofW (cc := cX12_pass) (maxL := 4) (ret := (some .int)) (by decide) rfl ?_
  intro p e s m args below meth c s₁ B hml hv
  obtain ⟨rfl, hsz, hP, hK, hD0⟩ := hv
  have hx := B.exec
  have hb := B.bytes
  have hr := B.returns
  have hts := atoms_spec (ws := wsX12_pass) B.pre
  have hown : s.vm.findClass RX12 = some m.cls := findClass_of_methodNamed B.named
  have hlocks := B.notSynchronized
  subst hsz
  have hD := hD0.self (sz := s.heap.size)
  generalize hAe : va_A [(h0, .inr (12, [.int 0, .int 0, .ref (am 2), .ref (am 3), .ref (am 4), .int 0, .ref (am 6), .ref (am 7), .ref (am 8), .int 0, .ref (am 10), .ref (am 11), .ref (am 12), .ref (am 13), .ref (am 14), .ref (am 15), .int 0, .ref (am 17), .ref (am 18), .ref (am 19), .ref (am 20), .int 0, .ref (am 22), .int 0, .ref (am 24), .ref (am 25), .ref (am 26), .ref (am 27), .ref (am 28), .ref (am 29), .int 0, .ref (am 31), .ref (am 32), .ref (am 33), .int 0, .ref (am 35), .int 0, .ref (am 37), .ref (am 38), .ref (am 39), .ref (am 40), .ref (am 41), .ref (am 42), .ref (am 43), .int 0, .ref (am 45), .ref (am 46), .ref (am 47), .int 0, .ref (am 49), .int 0, .ref (am 51), .int 0, .ref (am 53), .ref (am 54), .int 1, .int 0, .ref (am 57), .long 0, .ref (am 59), .ref (am 60), .long 0, .int 0, .int 0, .int 0, .int 0, .int 0, .int 0, .ref (am 68), .int 0, .int 0, .ref (am 71), .ref (am 72), .ref (am 73), .ref (am 74), .ref (am 75), .ref (am 76), .ref (am 77), .ref (am 78)]))] s.heap.size = A at hD  ⊢
  have hA : ∀ q : Nat, s.heap.size ≤ q → A q := fun q h => by rw [← hAe]; exact Or.inr h
  have hS : va_S A s.heap s.heap [] := va_S.rf
  have hl := lv_entry ([.ref h0, .int p0]) (n := 4) (Nat.le_of_ble_eq_true rfl)
  rw [lg_entry_eq]
  generalize (lg_sl ([.ref h0, .int p0]) ++ List.replicate (4 - (lg_sl ([.ref h0, .int p0])).length) Slot.unset).toArray = ls at hl ⊢
  have hl : lv_has ls 4 [(0, .ref h0), (1, .int p0)] := hl
  refine lv_iload_n hx hb dX12_pass_0 rfl (lv_at hl 1 rfl) ?_
  refine lv_iconst (v := 1) hx hb dX12_pass_1 (by decide) ?_
  refine lv_bipush (v := 48) hx hb dX12_pass_2 (by decide) ?_
  refine vp_callSi (va_Run.run (va_runS (As := [.int p0, .int 1, .int 48]) (rest := []) ⟨hx, hb, hml, hown, hts⟩ (rt_X12_within l p0 1 48) (va_cwS 3 hts gX12_pass_X12_within rfl rfl rfl (by decide +kernel) ⟨Nat.le_of_ble_eq_true rfl, Nat.le_of_ble_eq_true rfl⟩) ⟨fun a U g mk q => q, fun U hU hW => ⟨rfl, trivial⟩⟩ rfl rfl hl.1 rfl (lv_room (Nat.le_of_ble_eq_true rfl)) dX12_pass_4 ⟨by decide +kernel, by decide +kernel⟩)) (fun r_1 hr_1 => ?_)
  rcases hr_1 with ⟨b_2, rfl⟩ | ⟨b_2, rfl⟩
  · refine lv_if_ne (tgt := 13) hx hb dX12_pass_7 (by decide) (fun _ => ?_) (fun c9 => absurd c9 (by decide))
    refine lv_aload_n hx hb dX12_pass_13 rfl (lv_at hl 0 rfl) ?_
    refine va_get (D := (dC, dI)) (ci := 12) (v := .int 0) (C := RX12) (T := TX12) (N := 79) hx hb hts (by decide +kernel) hown hK hP 0 rfl rfl 0 (by decide) (hts (.fieldLink RX12 201 "RedTentModel" "hour" "I") (by decide +kernel)) (fun _ h9 => h9) rfl dX12_pass_14 ?_
    refine lv_iload_n hx hb dX12_pass_17 rfl (lv_at hl 1 rfl) ?_
    refine lv_iadd hx hb dX12_pass_18 ?_
    refine lv_topi (fun y_3 ey_3 => ?_)
    rw [ey_3.trans (Int32.zero_add p0)]
    refine lv_sipush (v := 239) hx hb dX12_pass_19 (by decide) ?_
    refine lv_icmp_le (tgt := 28) hx hb dX12_pass_22 (by decide) (fun _ => ?_) (fun c9 => absurd (by (try simp only [fa_lt, fa_le, fa_eq, fa_lt64, fa_le64, fa_eq64, Int32.reduceToInt, Int64.reduceToInt, zi_ite] at b_2 ⊢) <;> omega) c9)
    refine lv_aload_n hx hb dX12_pass_28 rfl (lv_at hl 0 rfl) ?_
    refine lv_dup hx hb dX12_pass_29 rfl ?_
    refine va_get (D := (dC, dI)) (ci := 12) (v := .int 0) (C := RX12) (T := TX12) (N := 79) hx hb hts (by decide +kernel) hown hK hP 0 rfl rfl 0 (by decide) (hts (.fieldLink RX12 201 "RedTentModel" "hour" "I") (by decide +kernel)) (fun _ h9 => h9) rfl dX12_pass_30 ?_
    refine lv_iload_n hx hb dX12_pass_33 rfl (lv_at hl 1 rfl) ?_
    refine lv_iadd hx hb dX12_pass_34 ?_
    refine lv_topi (fun y_4 ey_4 => ?_)
    rw [ey_4.trans (Int32.zero_add p0)]
    refine va_put (D := (dC, dI)) (ci := 12) (v := .int p0) (ty := .int) (C := RX12) (T := TX12) (N := 79) hx hb hts (by decide +kernel) tyX12 tyX12_ok nmX12 hown hK hP hD hS 0 rfl rfl 0 (by decide) (hts (.fieldLink RX12 201 "RedTentModel" "hour" "I") (by decide +kernel)) (fun _ h9 => h9) rfl (by decide +kernel) rfl rfl (Nat.le_of_ble_eq_true rfl) dX12_pass_35 (fun H locs hP hD hS => ?_)
    have hP : va_P (dC, dI) vwCl [(h0, .inr (12, [.int p0, .int 0, .ref (am 2), .ref (am 3), .ref (am 4), .int 0, .ref (am 6), .ref (am 7), .ref (am 8), .int 0, .ref (am 10), .ref (am 11), .ref (am 12), .ref (am 13), .ref (am 14), .ref (am 15), .int 0, .ref (am 17), .ref (am 18), .ref (am 19), .ref (am 20), .int 0, .ref (am 22), .int 0, .ref (am 24), .ref (am 25), .ref (am 26), .ref (am 27), .ref (am 28), .ref (am 29), .int 0, .ref (am 31), .ref (am 32), .ref (am 33), .int 0, .ref (am 35), .int 0, .ref (am 37), .ref (am 38), .ref (am 39), .ref (am 40), .ref (am 41), .ref (am 42), .ref (am 43), .int 0, .ref (am 45), .ref (am 46), .ref (am 47), .int 0, .ref (am 49), .int 0, .ref (am 51), .int 0, .ref (am 53), .ref (am 54), .int 1, .int 0, .ref (am 57), .long 0, .ref (am 59), .ref (am 60), .long 0, .int 0, .int 0, .int 0, .int 0, .int 0, .int 0, .ref (am 68), .int 0, .int 0, .ref (am 71), .ref (am 72), .ref (am 73), .ref (am 74), .ref (am 75), .ref (am 76), .ref (am 77), .ref (am 78)]))] H := hP
    have hD : va_D A [(h0, .inr (12, [.int p0, .int 0, .ref (am 2), .ref (am 3), .ref (am 4), .int 0, .ref (am 6), .ref (am 7), .ref (am 8), .int 0, .ref (am 10), .ref (am 11), .ref (am 12), .ref (am 13), .ref (am 14), .ref (am 15), .int 0, .ref (am 17), .ref (am 18), .ref (am 19), .ref (am 20), .int 0, .ref (am 22), .int 0, .ref (am 24), .ref (am 25), .ref (am 26), .ref (am 27), .ref (am 28), .ref (am 29), .int 0, .ref (am 31), .ref (am 32), .ref (am 33), .int 0, .ref (am 35), .int 0, .ref (am 37), .ref (am 38), .ref (am 39), .ref (am 40), .ref (am 41), .ref (am 42), .ref (am 43), .int 0, .ref (am 45), .ref (am 46), .ref (am 47), .int 0, .ref (am 49), .int 0, .ref (am 51), .int 0, .ref (am 53), .ref (am 54), .int 1, .int 0, .ref (am 57), .long 0, .ref (am 59), .ref (am 60), .long 0, .int 0, .int 0, .int 0, .int 0, .int 0, .int 0, .ref (am 68), .int 0, .int 0, .ref (am 71), .ref (am 72), .ref (am 73), .ref (am 74), .ref (am 75), .ref (am 76), .ref (am 77), .ref (am 78)]))] := hD
    refine lv_iconst (v := 0) hx hb dX12_pass_38 (by decide) ?_
    refine lv_istore_n (lv' := [(2, .int 0), (0, .ref h0), (1, .int p0)]) hx hb dX12_pass_39 rfl hl (by decide) rfl (fun ls hl => ?_)
    refine lv_iload_n hx hb dX12_pass_40 rfl (lv_at hl 0 rfl) ?_
    refine lv_aload_n hx hb dX12_pass_41 rfl (lv_at hl 1 rfl) ?_
    refine va_get (D := (dC, dI)) (ci := 12) (v := .int 0) (C := RX12) (T := TX12) (N := 79) hx hb hts (by decide +kernel) hown hK hP 0 rfl rfl 16 (by decide) (hts (.fieldLink RX12 190 "RedTentModel" "bodies" "I") (by decide +kernel)) (fun _ h9 => h9) rfl dX12_pass_42 ?_
    refine lv_icmp_ge (tgt := 84) hx hb dX12_pass_45 (by decide) (fun _ => ?_) (fun c9 => absurd (by decide) c9)
    refine lv_aload_n hx hb dX12_pass_84 rfl (lv_at hl 1 rfl) ?_
    refine va_get (D := (dC, dI)) (ci := 12) (v := .int p0) (C := RX12) (T := TX12) (N := 79) hx hb hts (by decide +kernel) hown hK hP 0 rfl rfl 0 (by decide) (hts (.fieldLink RX12 201 "RedTentModel" "hour" "I") (by decide +kernel)) (fun _ h9 => h9) rfl dX12_pass_85 ?_
    have hpost : ((p0 < 1 ∨ 48 < p0) ∧ (p0 : Int32) = (-2)) ∨ ((¬ (p0 < 1 ∨ 48 < p0)) ∧ (p0 : Int32) = p0) := by
      try simp only [fa_lt, fa_le, fa_eq, fa_lt64, fa_le64, fa_eq64, Int32.reduceToInt, Int64.reduceToInt, zi_ite] at b_2
      first
      | exact Or.inl ⟨by (try simp only [fa_lt, fa_le, fa_eq, fa_lt64, fa_le64, fa_eq64, Int32.reduceToInt, Int64.reduceToInt, zi_ite]); omega, rfl⟩
      | exact Or.inr (⟨by (try simp only [fa_lt, fa_le, fa_eq, fa_lt64, fa_le64, fa_eq64, Int32.reduceToInt, Int64.reduceToInt, zi_ite]); omega, rfl⟩)
    refine W.widen (k := 0) (n := 0) (by decide +kernel) (by decide +kernel) ?_
    exact W.iret (v := p0) hx hb hr (fun t ht hW => ⟨⟨p0, (), rfl, hpost, trivial⟩, hS.F ht⟩) hS.2.2 dX12_pass_88
  · refine lv_if_ne (tgt := 13) hx hb dX12_pass_7 (by decide) (fun c9 => absurd (by decide) c9) (fun _ => ?_)
    refine lv_bipush (v := (-2)) hx hb dX12_pass_10 (by decide) ?_
    have hpost : ((p0 < 1 ∨ 48 < p0) ∧ ((-2) : Int32) = (-2)) ∨ ((¬ (p0 < 1 ∨ 48 < p0)) ∧ ((-2) : Int32) = p0) := by
      try simp only [fa_lt, fa_le, fa_eq, fa_lt64, fa_le64, fa_eq64, Int32.reduceToInt, Int64.reduceToInt, zi_ite] at b_2
      first
      | exact Or.inl ⟨by (try simp only [fa_lt, fa_le, fa_eq, fa_lt64, fa_le64, fa_eq64, Int32.reduceToInt, Int64.reduceToInt, zi_ite]); omega, rfl⟩
      | exact Or.inr (⟨by (try simp only [fa_lt, fa_le, fa_eq, fa_lt64, fa_le64, fa_eq64, Int32.reduceToInt, Int64.reduceToInt, zi_ite]); omega, rfl⟩)
    refine W.widen (k := 0) (n := 0) (by decide +kernel) (by decide +kernel) ?_
    exact W.iret (v := (-2)) hx hb hr (fun t ht hW => ⟨⟨(-2), (), rfl, hpost, trivial⟩, hS.F ht⟩) hS.2.2 dX12_pass_12
set_option maxHeartbeats 1000000 in
set_option maxRecDepth 100000 in
theorem rt_X12_stays (l : Launch) (dC : Nat → ClassId) (dI : Nat → Nat → Nat) (sz : Nat) (h0 : Nat) (am : Nat → Nat) (p0 : Int32) : Met l yX12_stays wsX12_stays ({ frames := 1, cells := 0, slots := 0, locals := 22 }) (va_Pc [.ref h0, .int p0] (fun U => U.heap.size = sz ∧ va_P (dC, dI) vwCl [(h0, .inr (12, [.int 0, .int 0, .ref (am 2), .ref (am 3), .ref (am 4), .int 0, .ref (am 6), .ref (am 7), .ref (am 8), .int 0, .ref (am 10), .ref (am 11), .ref (am 12), .ref (am 13), .ref (am 14), .ref (am 15), .int 0, .ref (am 17), .ref (am 18), .ref (am 19), .ref (am 20), .int 0, .ref (am 22), .int 0, .ref (am 24), .ref (am 25), .ref (am 26), .ref (am 27), .ref (am 28), .ref (am 29), .int 0, .ref (am 31), .ref (am 32), .ref (am 33), .int 0, .ref (am 35), .int 0, .ref (am 37), .ref (am 38), .ref (am 39), .ref (am 40), .ref (am 41), .ref (am 42), .ref (am 43), .int 0, .ref (am 45), .ref (am 46), .ref (am 47), .int 0, .ref (am 49), .int 0, .ref (am 51), .int 0, .ref (am 53), .ref (am 54), .int 1, .int 0, .ref (am 57), .long 0, .ref (am 59), .ref (am 60), .long 0, .int 0, .int 0, .int 0, .int 0, .int 0, .int 0, .ref (am 68), .int 0, .int 0, .ref (am 71), .ref (am 72), .ref (am 73), .ref (am 74), .ref (am 75), .ref (am 76), .ref (am 77), .ref (am 78)]))] U.heap ∧ va_K (dC, dI) vwCl [] U ∧ va_D (fun _ => True) [(h0, .inr (12, [.int 0, .int 0, .ref (am 2), .ref (am 3), .ref (am 4), .int 0, .ref (am 6), .ref (am 7), .ref (am 8), .int 0, .ref (am 10), .ref (am 11), .ref (am 12), .ref (am 13), .ref (am 14), .ref (am 15), .int 0, .ref (am 17), .ref (am 18), .ref (am 19), .ref (am 20), .int 0, .ref (am 22), .int 0, .ref (am 24), .ref (am 25), .ref (am 26), .ref (am 27), .ref (am 28), .ref (am 29), .int 0, .ref (am 31), .ref (am 32), .ref (am 33), .int 0, .ref (am 35), .int 0, .ref (am 37), .ref (am 38), .ref (am 39), .ref (am 40), .ref (am 41), .ref (am 42), .ref (am 43), .int 0, .ref (am 45), .ref (am 46), .ref (am 47), .int 0, .ref (am 49), .int 0, .ref (am 51), .int 0, .ref (am 53), .ref (am 54), .int 1, .int 0, .ref (am 57), .long 0, .ref (am 59), .ref (am 60), .long 0, .int 0, .int 0, .int 0, .int 0, .int 0, .int 0, .ref (am 68), .int 0, .int 0, .ref (am 71), .ref (am 72), .ref (am 73), .ref (am 74), .ref (am 75), .ref (am 76), .ref (am 77), .ref (am 78)]))])) (va_Qi (fun (r : Int32) (u : Unit) => match u with | () => ((0 ≤ p0 ∧ p0 ≤ 9) ∧ r = 0) ∨ ((¬ (0 ≤ p0 ∧ p0 ≤ 9)) ∧ r = (-2))) (fun (u : Unit) (t : State) => match u with | () => True) (va_A [(h0, .inr (12, [.int 0, .int 0, .ref (am 2), .ref (am 3), .ref (am 4), .int 0, .ref (am 6), .ref (am 7), .ref (am 8), .int 0, .ref (am 10), .ref (am 11), .ref (am 12), .ref (am 13), .ref (am 14), .ref (am 15), .int 0, .ref (am 17), .ref (am 18), .ref (am 19), .ref (am 20), .int 0, .ref (am 22), .int 0, .ref (am 24), .ref (am 25), .ref (am 26), .ref (am 27), .ref (am 28), .ref (am 29), .int 0, .ref (am 31), .ref (am 32), .ref (am 33), .int 0, .ref (am 35), .int 0, .ref (am 37), .ref (am 38), .ref (am 39), .ref (am 40), .ref (am 41), .ref (am 42), .ref (am 43), .int 0, .ref (am 45), .ref (am 46), .ref (am 47), .int 0, .ref (am 49), .int 0, .ref (am 51), .int 0, .ref (am 53), .ref (am 54), .int 1, .int 0, .ref (am 57), .long 0, .ref (am 59), .ref (am 60), .long 0, .int 0, .int 0, .int 0, .int 0, .int 0, .int 0, .ref (am 68), .int 0, .int 0, .ref (am 71), .ref (am 72), .ref (am 73), .ref (am 74), .ref (am 75), .ref (am 76), .ref (am 77), .ref (am 78)]))] sz)) 0 0 (va_A [(h0, .inr (12, [.int 0, .int 0, .ref (am 2), .ref (am 3), .ref (am 4), .int 0, .ref (am 6), .ref (am 7), .ref (am 8), .int 0, .ref (am 10), .ref (am 11), .ref (am 12), .ref (am 13), .ref (am 14), .ref (am 15), .int 0, .ref (am 17), .ref (am 18), .ref (am 19), .ref (am 20), .int 0, .ref (am 22), .int 0, .ref (am 24), .ref (am 25), .ref (am 26), .ref (am 27), .ref (am 28), .ref (am 29), .int 0, .ref (am 31), .ref (am 32), .ref (am 33), .int 0, .ref (am 35), .int 0, .ref (am 37), .ref (am 38), .ref (am 39), .ref (am 40), .ref (am 41), .ref (am 42), .ref (am 43), .int 0, .ref (am 45), .ref (am 46), .ref (am 47), .int 0, .ref (am 49), .int 0, .ref (am 51), .int 0, .ref (am 53), .ref (am 54), .int 1, .int 0, .ref (am 57), .long 0, .ref (am 59), .ref (am 60), .long 0, .int 0, .int 0, .int 0, .int 0, .int 0, .int 0, .ref (am 68), .int 0, .int 0, .ref (am 71), .ref (am 72), .ref (am 73), .ref (am 74), .ref (am 75), .ref (am 76), .ref (am 77), .ref (am 78)]))] sz) := by
  refine Met.ofW (cc := cX12_stays) (maxL := 3) (ret := (some .int)) (by decide) rfl ?_
  intro p e s m args below meth c s₁ B hml hv
  obtain ⟨rfl, hsz, hP, hK, hD0⟩ := hv
  have hx := B.exec
  have hb := B.bytes
  have hr := B.returns
  have hts := atoms_spec (ws := wsX12_stays) B.pre
  have hown : s.vm.findClass RX12 = some m.cls := findClass_of_methodNamed B.named
  have hlocks := B.notSynchronized
  subst hsz
  have hD := hD0.self (sz := s.heap.size)
  generalize hAe : va_A [(h0, .inr (12, [.int 0, .int 0, .ref (am 2), .ref (am 3), .ref (am 4), .int 0, .ref (am 6), .ref (am 7), .ref (am 8), .int 0, .ref (am 10), .ref (am 11), .ref (am 12), .ref (am 13), .ref (am 14), .ref (am 15), .int 0, .ref (am 17), .ref (am 18), .ref (am 19), .ref (am 20), .int 0, .ref (am 22), .int 0, .ref (am 24), .ref (am 25), .ref (am 26), .ref (am 27), .ref (am 28), .ref (am 29), .int 0, .ref (am 31), .ref (am 32), .ref (am 33), .int 0, .ref (am 35), .int 0, .ref (am 37), .ref (am 38), .ref (am 39), .ref (am 40), .ref (am 41), .ref (am 42), .ref (am 43), .int 0, .ref (am 45), .ref (am 46), .ref (am 47), .int 0, .ref (am 49), .int 0, .ref (am 51), .int 0, .ref (am 53), .ref (am 54), .int 1, .int 0, .ref (am 57), .long 0, .ref (am 59), .ref (am 60), .long 0, .int 0, .int 0, .int 0, .int 0, .int 0, .int 0, .ref (am 68), .int 0, .int 0, .ref (am 71), .ref (am 72), .ref (am 73), .ref (am 74), .ref (am 75), .ref (am 76), .ref (am 77), .ref (am 78)]))] s.heap.size = A at hD  ⊢
  have hA : ∀ q : Nat, s.heap.size ≤ q → A q := fun q h => by rw [← hAe]; exact Or.inr h
  have hS : va_S A s.heap s.heap [] := va_S.rf
  have hl := lv_entry ([.ref h0, .int p0]) (n := 3) (Nat.le_of_ble_eq_true rfl)
  rw [lg_entry_eq]
  generalize (lg_sl ([.ref h0, .int p0]) ++ List.replicate (3 - (lg_sl ([.ref h0, .int p0])).length) Slot.unset).toArray = ls at hl ⊢
  have hl : lv_has ls 3 [(0, .ref h0), (1, .int p0)] := hl
  refine lv_iload_n hx hb dX12_stays_0 rfl (lv_at hl 1 rfl) ?_
  refine lv_iconst (v := 0) hx hb dX12_stays_1 (by decide) ?_
  refine lv_bipush (v := 9) hx hb dX12_stays_2 (by decide) ?_
  refine vp_callSi (va_Run.run (va_runS (As := [.int p0, .int 0, .int 9]) (rest := []) ⟨hx, hb, hml, hown, hts⟩ (rt_X12_within l p0 0 9) (va_cwS 3 hts gX12_stays_X12_within rfl rfl rfl (by decide +kernel) ⟨Nat.le_of_ble_eq_true rfl, Nat.le_of_ble_eq_true rfl⟩) ⟨fun a U g mk q => q, fun U hU hW => ⟨rfl, trivial⟩⟩ rfl rfl hl.1 rfl (lv_room (Nat.le_of_ble_eq_true rfl)) dX12_stays_4 ⟨by decide +kernel, by decide +kernel⟩)) (fun r_1 hr_1 => ?_)
  rcases hr_1 with ⟨b_2, rfl⟩ | ⟨b_2, rfl⟩
  · refine lv_if_ne (tgt := 13) hx hb dX12_stays_7 (by decide) (fun _ => ?_) (fun c9 => absurd c9 (by decide))
    refine lv_aload_n hx hb dX12_stays_13 rfl (lv_at hl 0 rfl) ?_
    refine va_get (D := (dC, dI)) (ci := 12) (v := .int 0) (C := RX12) (T := TX12) (N := 79) hx hb hts (by decide +kernel) hown hK hP 0 rfl rfl 1 (by decide) (hts (.fieldLink RX12 307 "RedTentModel" "stay" "I") (by decide +kernel)) (fun _ h9 => h9) rfl dX12_stays_14 ?_
    refine lv_istore_n (lv' := [(2, .int 0), (0, .ref h0), (1, .int p0)]) hx hb dX12_stays_17 rfl hl (by decide) rfl (fun ls hl => ?_)
    refine lv_aload_n hx hb dX12_stays_18 rfl (lv_at hl 1 rfl) ?_
    refine lv_iload_n hx hb dX12_stays_19 rfl (lv_at hl 2 rfl) ?_
    refine va_put (D := (dC, dI)) (ci := 12) (v := .int p0) (ty := .int) (C := RX12) (T := TX12) (N := 79) hx hb hts (by decide +kernel) tyX12 tyX12_ok nmX12 hown hK hP hD hS 0 rfl rfl 1 (by decide) (hts (.fieldLink RX12 307 "RedTentModel" "stay" "I") (by decide +kernel)) (fun _ h9 => h9) rfl (by decide +kernel) rfl rfl (Nat.le_of_ble_eq_true rfl) dX12_stays_20 (fun H locs hP hD hS => ?_)
    have hP : va_P (dC, dI) vwCl [(h0, .inr (12, [.int 0, .int p0, .ref (am 2), .ref (am 3), .ref (am 4), .int 0, .ref (am 6), .ref (am 7), .ref (am 8), .int 0, .ref (am 10), .ref (am 11), .ref (am 12), .ref (am 13), .ref (am 14), .ref (am 15), .int 0, .ref (am 17), .ref (am 18), .ref (am 19), .ref (am 20), .int 0, .ref (am 22), .int 0, .ref (am 24), .ref (am 25), .ref (am 26), .ref (am 27), .ref (am 28), .ref (am 29), .int 0, .ref (am 31), .ref (am 32), .ref (am 33), .int 0, .ref (am 35), .int 0, .ref (am 37), .ref (am 38), .ref (am 39), .ref (am 40), .ref (am 41), .ref (am 42), .ref (am 43), .int 0, .ref (am 45), .ref (am 46), .ref (am 47), .int 0, .ref (am 49), .int 0, .ref (am 51), .int 0, .ref (am 53), .ref (am 54), .int 1, .int 0, .ref (am 57), .long 0, .ref (am 59), .ref (am 60), .long 0, .int 0, .int 0, .int 0, .int 0, .int 0, .int 0, .ref (am 68), .int 0, .int 0, .ref (am 71), .ref (am 72), .ref (am 73), .ref (am 74), .ref (am 75), .ref (am 76), .ref (am 77), .ref (am 78)]))] H := hP
    have hD : va_D A [(h0, .inr (12, [.int 0, .int p0, .ref (am 2), .ref (am 3), .ref (am 4), .int 0, .ref (am 6), .ref (am 7), .ref (am 8), .int 0, .ref (am 10), .ref (am 11), .ref (am 12), .ref (am 13), .ref (am 14), .ref (am 15), .int 0, .ref (am 17), .ref (am 18), .ref (am 19), .ref (am 20), .int 0, .ref (am 22), .int 0, .ref (am 24), .ref (am 25), .ref (am 26), .ref (am 27), .ref (am 28), .ref (am 29), .int 0, .ref (am 31), .ref (am 32), .ref (am 33), .int 0, .ref (am 35), .int 0, .ref (am 37), .ref (am 38), .ref (am 39), .ref (am 40), .ref (am 41), .ref (am 42), .ref (am 43), .int 0, .ref (am 45), .ref (am 46), .ref (am 47), .int 0, .ref (am 49), .int 0, .ref (am 51), .int 0, .ref (am 53), .ref (am 54), .int 1, .int 0, .ref (am 57), .long 0, .ref (am 59), .ref (am 60), .long 0, .int 0, .int 0, .int 0, .int 0, .int 0, .int 0, .ref (am 68), .int 0, .int 0, .ref (am 71), .ref (am 72), .ref (am 73), .ref (am 74), .ref (am 75), .ref (am 76), .ref (am 77), .ref (am 78)]))] := hD
    refine lv_iload_n hx hb dX12_stays_23 rfl (lv_at hl 0 rfl) ?_
    have hpost : ((0 ≤ p0 ∧ p0 ≤ 9) ∧ (0 : Int32) = 0) ∨ ((¬ (0 ≤ p0 ∧ p0 ≤ 9)) ∧ (0 : Int32) = (-2)) := by
      try simp only [fa_lt, fa_le, fa_eq, fa_lt64, fa_le64, fa_eq64, Int32.reduceToInt, Int64.reduceToInt, zi_ite] at b_2
      first
      | exact Or.inl ⟨by (try simp only [fa_lt, fa_le, fa_eq, fa_lt64, fa_le64, fa_eq64, Int32.reduceToInt, Int64.reduceToInt, zi_ite]); omega, rfl⟩
      | exact Or.inr (⟨by (try simp only [fa_lt, fa_le, fa_eq, fa_lt64, fa_le64, fa_eq64, Int32.reduceToInt, Int64.reduceToInt, zi_ite]); omega, rfl⟩)
    refine W.widen (k := 0) (n := 0) (by decide +kernel) (by decide +kernel) ?_
    exact W.iret (v := 0) hx hb hr (fun t ht hW => ⟨⟨0, (), rfl, hpost, trivial⟩, hS.F ht⟩) hS.2.2 dX12_stays_24
  · refine lv_if_ne (tgt := 13) hx hb dX12_stays_7 (by decide) (fun c9 => absurd (by decide) c9) (fun _ => ?_)
    refine lv_bipush (v := (-2)) hx hb dX12_stays_10 (by decide) ?_
    have hpost : ((0 ≤ p0 ∧ p0 ≤ 9) ∧ ((-2) : Int32) = 0) ∨ ((¬ (0 ≤ p0 ∧ p0 ≤ 9)) ∧ ((-2) : Int32) = (-2)) := by
      try simp only [fa_lt, fa_le, fa_eq, fa_lt64, fa_le64, fa_eq64, Int32.reduceToInt, Int64.reduceToInt, zi_ite] at b_2
      first
      | exact Or.inl ⟨by (try simp only [fa_lt, fa_le, fa_eq, fa_lt64, fa_le64, fa_eq64, Int32.reduceToInt, Int64.reduceToInt, zi_ite]); omega, rfl⟩
      | exact Or.inr (⟨by (try simp only [fa_lt, fa_le, fa_eq, fa_lt64, fa_le64, fa_eq64, Int32.reduceToInt, Int64.reduceToInt, zi_ite]); omega, rfl⟩)
    refine W.widen (k := 0) (n := 0) (by decide +kernel) (by decide +kernel) ?_
    exact W.iret (v := (-2)) hx hb hr (fun t ht hW => ⟨⟨(-2), (), rfl, hpost, trivial⟩, hS.F ht⟩) hS.2.2 dX12_stays_12
set_option maxHeartbeats 1000000 in
set_option maxRecDepth 100000 in
theorem rt_X12_wind (l : Launch) (dC : Nat → ClassId) (dI : Nat → Nat → Nat) (sz : Nat) (h0 : Nat) (am : Nat → Nat) (cs : Nat → ClassId) (fs : Nat → Nat → Int32) (p0 p1 p2 : Int32) : Met l yX12_wind wsX12_wind ({ frames := 2, cells := 0, slots := 0, locals := 43 }) (va_Pc [.ref h0, .int p0, .int p1, .int p2] (fun U => U.heap.size = sz ∧ va_P (dC, dI) vwCl [(h0, .inr (12, [.int 0, .int 0, .ref (am 2), .ref (am 3), .ref (am 4), .int 0, .ref (am 6), .ref (am 7), .ref (am 8), .int 0, .ref (am 10), .ref (am 11), .ref (am 12), .ref (am 13), .ref (am 14), .ref (am 15), .int 0, .ref (am 17), .ref (am 18), .ref (am 19), .ref (am 20), .int 0, .ref (am 22), .int 0, .ref (am 24), .ref (am 25), .ref (am 26), .ref (am 27), .ref (am 28), .ref (am 29), .int 0, .ref (am 31), .ref (am 32), .ref (am 33), .int 0, .ref (am 35), .int 0, .ref (am 37), .ref (am 38), .ref (am 39), .ref (am 40), .ref (am 41), .ref (am 42), .ref (am 43), .int 0, .ref (am 45), .ref (am 46), .ref (am 47), .int 0, .ref (am 49), .int 0, .ref (am 51), .int 0, .ref (am 53), .ref (am 54), .int 1, .int 0, .ref (am 57), .long 0, .ref (am 59), .ref (am 60), .long 0, .int 0, .int 0, .int 0, .int 0, .int 0, .int 0, .ref (am 68), .int 0, .int 0, .ref (am 71), .ref (am 72), .ref (am 73), .ref (am 74), .ref (am 75), .ref (am 76), .ref (am 77), .ref (am 78)])), (am 2, .inl (cs 2, 30, .inl (fs 2))), (am 3, .inl (cs 3, 30, .inl (fs 3))), (am 4, .inl (cs 4, 30, .inl (fs 4)))] U.heap ∧ va_K (dC, dI) vwCl [(cs 2, .int), (cs 3, .int), (cs 4, .int)] U ∧ va_D (fun _ => True) [(h0, .inr (12, [.int 0, .int 0, .ref (am 2), .ref (am 3), .ref (am 4), .int 0, .ref (am 6), .ref (am 7), .ref (am 8), .int 0, .ref (am 10), .ref (am 11), .ref (am 12), .ref (am 13), .ref (am 14), .ref (am 15), .int 0, .ref (am 17), .ref (am 18), .ref (am 19), .ref (am 20), .int 0, .ref (am 22), .int 0, .ref (am 24), .ref (am 25), .ref (am 26), .ref (am 27), .ref (am 28), .ref (am 29), .int 0, .ref (am 31), .ref (am 32), .ref (am 33), .int 0, .ref (am 35), .int 0, .ref (am 37), .ref (am 38), .ref (am 39), .ref (am 40), .ref (am 41), .ref (am 42), .ref (am 43), .int 0, .ref (am 45), .ref (am 46), .ref (am 47), .int 0, .ref (am 49), .int 0, .ref (am 51), .int 0, .ref (am 53), .ref (am 54), .int 1, .int 0, .ref (am 57), .long 0, .ref (am 59), .ref (am 60), .long 0, .int 0, .int 0, .int 0, .int 0, .int 0, .int 0, .ref (am 68), .int 0, .int 0, .ref (am 71), .ref (am 72), .ref (am 73), .ref (am 74), .ref (am 75), .ref (am 76), .ref (am 77), .ref (am 78)])), (am 2, .inl (cs 2, 30, .inl (fs 2))), (am 3, .inl (cs 3, 30, .inl (fs 3))), (am 4, .inl (cs 4, 30, .inl (fs 4)))])) (va_Qi (fun (r : Int32) (u : Unit) => match u with | () => ((0 ≤ p0 ∧ p0 < p1 ∧ p1 ≤ 240 ∧ 0 ≤ p2 ∧ p2 ≤ 4444 ∧ p2 / 100 - p2 / 100 / 10 * 10 ≤ 4 ∧ p2 / 10 - p2 / 10 / 10 * 10 ≤ 4 ∧ p2 - p2 / 10 * 10 ≤ 4 ∧ p2 / 1000 ≤ p2 / 100 - p2 / 100 / 10 * 10 ∧ p2 / 10 - p2 / 10 / 10 * 10 ≤ p2 - p2 / 10 * 10) ∧ r = 1) ∨ ((¬ (0 ≤ p0 ∧ p0 < p1 ∧ p1 ≤ 240 ∧ 0 ≤ p2 ∧ p2 ≤ 4444 ∧ p2 / 100 - p2 / 100 / 10 * 10 ≤ 4 ∧ p2 / 10 - p2 / 10 / 10 * 10 ≤ 4 ∧ p2 - p2 / 10 * 10 ≤ 4 ∧ p2 / 1000 ≤ p2 / 100 - p2 / 100 / 10 * 10 ∧ p2 / 10 - p2 / 10 / 10 * 10 ≤ p2 - p2 / 10 * 10)) ∧ r = (-2))) (fun (u : Unit) (t : State) => match u with | () => True) (va_A [(h0, .inr (12, [.int 0, .int 0, .ref (am 2), .ref (am 3), .ref (am 4), .int 0, .ref (am 6), .ref (am 7), .ref (am 8), .int 0, .ref (am 10), .ref (am 11), .ref (am 12), .ref (am 13), .ref (am 14), .ref (am 15), .int 0, .ref (am 17), .ref (am 18), .ref (am 19), .ref (am 20), .int 0, .ref (am 22), .int 0, .ref (am 24), .ref (am 25), .ref (am 26), .ref (am 27), .ref (am 28), .ref (am 29), .int 0, .ref (am 31), .ref (am 32), .ref (am 33), .int 0, .ref (am 35), .int 0, .ref (am 37), .ref (am 38), .ref (am 39), .ref (am 40), .ref (am 41), .ref (am 42), .ref (am 43), .int 0, .ref (am 45), .ref (am 46), .ref (am 47), .int 0, .ref (am 49), .int 0, .ref (am 51), .int 0, .ref (am 53), .ref (am 54), .int 1, .int 0, .ref (am 57), .long 0, .ref (am 59), .ref (am 60), .long 0, .int 0, .int 0, .int 0, .int 0, .int 0, .int 0, .ref (am 68), .int 0, .int 0, .ref (am 71), .ref (am 72), .ref (am 73), .ref (am 74), .ref (am 75), .ref (am 76), .ref (am 77), .ref (am 78)])), (am 2, .inl (cs 2, 30, .inl (fs 2))), (am 3, .inl (cs 3, 30, .inl (fs 3))), (am 4, .inl (cs 4, 30, .inl (fs 4)))] sz)) 0 0 (va_A [(h0, .inr (12, [.int 0, .int 0, .ref (am 2), .ref (am 3), .ref (am 4), .int 0, .ref (am 6), .ref (am 7), .ref (am 8), .int 0, .ref (am 10), .ref (am 11), .ref (am 12), .ref (am 13), .ref (am 14), .ref (am 15), .int 0, .ref (am 17), .ref (am 18), .ref (am 19), .ref (am 20), .int 0, .ref (am 22), .int 0, .ref (am 24), .ref (am 25), .ref (am 26), .ref (am 27), .ref (am 28), .ref (am 29), .int 0, .ref (am 31), .ref (am 32), .ref (am 33), .int 0, .ref (am 35), .int 0, .ref (am 37), .ref (am 38), .ref (am 39), .ref (am 40), .ref (am 41), .ref (am 42), .ref (am 43), .int 0, .ref (am 45), .ref (am 46), .ref (am 47), .int 0, .ref (am 49), .int 0, .ref (am 51), .int 0, .ref (am 53), .ref (am 54), .int 1, .int 0, .ref (am 57), .long 0, .ref (am 59), .ref (am 60), .long 0, .int 0, .int 0, .int 0, .int 0, .int 0, .int 0, .ref (am 68), .int 0, .int 0, .ref (am 71), .ref (am 72), .ref (am 73), .ref (am 74), .ref (am 75), .ref (am 76), .ref (am 77), .ref (am 78)])), (am 2, .inl (cs 2, 30, .inl (fs 2))), (am 3, .inl (cs 3, 30, .inl (fs 3))), (am 4, .inl (cs 4, 30, .inl (fs 4)))] sz) := by
  refine Met.ofW (cc := cX12_wind) (maxL := 5) (ret := (some .int)) (by decide) rfl ?_
  intro p e s m args below meth c s₁ B hml hv
  obtain ⟨rfl, hsz, hP, hK, hD0⟩ := hv
  have hx := B.exec
  have hb := B.bytes
  have hr := B.returns
  have hts := atoms_spec (ws := wsX12_wind) B.pre
  have hown : s.vm.findClass RX12 = some m.cls := findClass_of_methodNamed B.named
  have hlocks := B.notSynchronized
  subst hsz
  have hD := hD0.self (sz := s.heap.size)
  generalize hAe : va_A [(h0, .inr (12, [.int 0, .int 0, .ref (am 2), .ref (am 3), .ref (am 4), .int 0, .ref (am 6), .ref (am 7), .ref (am 8), .int 0, .ref (am 10), .ref (am 11), .ref (am 12), .ref (am 13), .ref (am 14), .ref (am 15), .int 0, .ref (am 17), .ref (am 18), .ref (am 19), .ref (am 20), .int 0, .ref (am 22), .int 0, .ref (am 24), .ref (am 25), .ref (am 26), .ref (am 27), .ref (am 28), .ref (am 29), .int 0, .ref (am 31), .ref (am 32), .ref (am 33), .int 0, .ref (am 35), .int 0, .ref (am 37), .ref (am 38), .ref (am 39), .ref (am 40), .ref (am 41), .ref (am 42), .ref (am 43), .int 0, .ref (am 45), .ref (am 46), .ref (am 47), .int 0, .ref (am 49), .int 0, .ref (am 51), .int 0, .ref (am 53), .ref (am 54), .int 1, .int 0, .ref (am 57), .long 0, .ref (am 59), .ref (am 60), .long 0, .int 0, .int 0, .int 0, .int 0, .int 0, .int 0, .ref (am 68), .int 0, .int 0, .ref (am 71), .ref (am 72), .ref (am 73), .ref (am 74), .ref (am 75), .ref (am 76), .ref (am 77), .ref (am 78)])), (am 2, .inl (cs 2, 30, .inl (fs 2))), (am 3, .inl (cs 3, 30, .inl (fs 3))), (am 4, .inl (cs 4, 30, .inl (fs 4)))] s.heap.size = A at hD  ⊢
  have hA : ∀ q : Nat, s.heap.size ≤ q → A q := fun q h => by rw [← hAe]; exact Or.inr h
  have hS : va_S A s.heap s.heap [] := va_S.rf
  have hl := lv_entry ([.ref h0, .int p0, .int p1, .int p2]) (n := 5) (Nat.le_of_ble_eq_true rfl)
  rw [lg_entry_eq]
  generalize (lg_sl ([.ref h0, .int p0, .int p1, .int p2]) ++ List.replicate (5 - (lg_sl ([.ref h0, .int p0, .int p1, .int p2])).length) Slot.unset).toArray = ls at hl ⊢
  have hl : lv_has ls 5 [(0, .ref h0), (1, .int p0), (2, .int p1), (3, .int p2)] := hl
  refine lv_iload_n hx hb dX12_wind_0 rfl (lv_at hl 1 rfl) ?_
  refine lv_iload_n hx hb dX12_wind_1 rfl (lv_at hl 2 rfl) ?_
  refine vp_callSi (va_Run.run (va_runS (As := [.int p0, .int p1]) (rest := []) ⟨hx, hb, hml, hown, hts⟩ (rt_X12_areHours l p0 p1) (va_cwS 2 hts gX12_wind_X12_areHours rfl rfl rfl (by decide +kernel) ⟨Nat.le_of_ble_eq_true rfl, Nat.le_of_ble_eq_true rfl⟩) ⟨fun a U g mk q => q, fun U hU hW => ⟨rfl, trivial⟩⟩ rfl rfl hl.1 rfl (lv_room (Nat.le_of_ble_eq_true rfl)) dX12_wind_2 ⟨by decide +kernel, by decide +kernel⟩)) (fun r_1 hr_1 => ?_)
  rcases hr_1 with ⟨b_2, rfl⟩ | ⟨b_2, rfl⟩
  · refine lv_if_eq (tgt := 53) hx hb dX12_wind_5 (by decide) (fun c9 => absurd c9 (by decide)) (fun _ => ?_)
    refine lv_iload_n hx hb dX12_wind_8 rfl (lv_at hl 3 rfl) ?_
    refine lv_iconst (v := 0) hx hb dX12_wind_9 (by decide) ?_
    refine lv_sipush (v := 4444) hx hb dX12_wind_10 (by decide) ?_
    refine vp_callSi (va_Run.run (va_runS (As := [.int p2, .int 0, .int 4444]) (rest := []) ⟨hx, hb, hml, hown, hts⟩ (rt_X12_within l p2 0 4444) (va_cwS 3 hts gX12_wind_X12_within rfl rfl rfl (by decide +kernel) ⟨Nat.le_of_ble_eq_true rfl, Nat.le_of_ble_eq_true rfl⟩) ⟨fun a U g mk q => q, fun U hU hW => ⟨rfl, trivial⟩⟩ rfl rfl hl.1 rfl (lv_room (Nat.le_of_ble_eq_true rfl)) dX12_wind_13 ⟨by decide +kernel, by decide +kernel⟩)) (fun r_3 hr_3 => ?_)
    rcases hr_3 with ⟨b_4, rfl⟩ | ⟨b_4, rfl⟩
    · refine lv_if_eq (tgt := 53) hx hb dX12_wind_16 (by decide) (fun c9 => absurd c9 (by decide)) (fun _ => ?_)
      refine lv_iload_n hx hb dX12_wind_19 rfl (lv_at hl 3 rfl) ?_
      refine lv_bipush (v := 100) hx hb dX12_wind_20 (by decide) ?_
      refine lv_idiv hx hb dX12_wind_22 (by decide) ?_
      refine lv_bipush (v := 10) hx hb dX12_wind_23 (by decide) ?_
      refine lv_irem hx hb dX12_wind_25 (by decide) ?_
      refine lv_iconst (v := 4) hx hb dX12_wind_26 (by decide) ?_
      refine lv_icmp_gt (tgt := 53) hx hb dX12_wind_27 (by decide) (fun c_5 => ?_) (fun c_5 => ?_)
      · refine lv_iconst (v := 0) hx hb dX12_wind_53 (by decide) ?_
        refine lv_istore (lv' := [(4, .int 0), (0, .ref h0), (1, .int p0), (2, .int p1), (3, .int p2)]) hx hb dX12_wind_54 hl (by decide) rfl (fun ls hl => ?_)
        refine lv_iload hx hb dX12_wind_56 (lv_at hl 0 rfl) ?_
        refine lv_if_eq (tgt := 90) hx hb dX12_wind_58 (by decide) (fun _ => ?_) (fun c9 => absurd (by decide) c9)
        refine lv_bipush (v := (-2)) hx hb dX12_wind_90 (by decide) ?_
        have hpost : ((0 ≤ p0 ∧ p0 < p1 ∧ p1 ≤ 240 ∧ 0 ≤ p2 ∧ p2 ≤ 4444 ∧ p2 / 100 - p2 / 100 / 10 * 10 ≤ 4 ∧ p2 / 10 - p2 / 10 / 10 * 10 ≤ 4 ∧ p2 - p2 / 10 * 10 ≤ 4 ∧ p2 / 1000 ≤ p2 / 100 - p2 / 100 / 10 * 10 ∧ p2 / 10 - p2 / 10 / 10 * 10 ≤ p2 - p2 / 10 * 10) ∧ ((-2) : Int32) = 1) ∨ ((¬ (0 ≤ p0 ∧ p0 < p1 ∧ p1 ≤ 240 ∧ 0 ≤ p2 ∧ p2 ≤ 4444 ∧ p2 / 100 - p2 / 100 / 10 * 10 ≤ 4 ∧ p2 / 10 - p2 / 10 / 10 * 10 ≤ 4 ∧ p2 - p2 / 10 * 10 ≤ 4 ∧ p2 / 1000 ≤ p2 / 100 - p2 / 100 / 10 * 10 ∧ p2 / 10 - p2 / 10 / 10 * 10 ≤ p2 - p2 / 10 * 10)) ∧ ((-2) : Int32) = (-2)) := by
          try simp only [fa_lt, fa_le, fa_eq, fa_lt64, fa_le64, fa_eq64, Int32.reduceToInt, Int64.reduceToInt, zi_ite] at b_2
          try simp only [fa_lt, fa_le, fa_eq, fa_lt64, fa_le64, fa_eq64, Int32.reduceToInt, Int64.reduceToInt, zi_ite] at b_4
          try simp only [fa_lt, fa_le, fa_eq, fa_lt64, fa_le64, fa_eq64, Int32.reduceToInt, Int64.reduceToInt, zi_ite] at c_5
          first
          | exact Or.inl ⟨by (try simp only [fa_lt, fa_le, fa_eq, fa_lt64, fa_le64, fa_eq64, Int32.reduceToInt, Int64.reduceToInt, zi_ite]); omega, rfl⟩
          | exact Or.inr (⟨by (try simp only [fa_lt, fa_le, fa_eq, fa_lt64, fa_le64, fa_eq64, Int32.reduceToInt, Int64.reduceToInt, zi_ite]); omega, rfl⟩)
        refine W.widen (k := 0) (n := 0) (by decide +kernel) (by decide +kernel) ?_
        exact W.iret (v := (-2)) hx hb hr (fun t ht hW => ⟨⟨(-2), (), rfl, hpost, trivial⟩, hS.F ht⟩) hS.2.2 dX12_wind_92
      · refine lv_iload_n hx hb dX12_wind_30 rfl (lv_at hl 3 rfl) ?_
        refine lv_bipush (v := 10) hx hb dX12_wind_31 (by decide) ?_
        refine lv_idiv hx hb dX12_wind_33 (by decide) ?_
        refine lv_bipush (v := 10) hx hb dX12_wind_34 (by decide) ?_
        refine lv_irem hx hb dX12_wind_36 (by decide) ?_
        refine lv_iconst (v := 4) hx hb dX12_wind_37 (by decide) ?_
        refine lv_icmp_gt (tgt := 53) hx hb dX12_wind_38 (by decide) (fun c_6 => ?_) (fun c_6 => ?_)
        · refine lv_iconst (v := 0) hx hb dX12_wind_53 (by decide) ?_
          refine lv_istore (lv' := [(4, .int 0), (0, .ref h0), (1, .int p0), (2, .int p1), (3, .int p2)]) hx hb dX12_wind_54 hl (by decide) rfl (fun ls hl => ?_)
          refine lv_iload hx hb dX12_wind_56 (lv_at hl 0 rfl) ?_
          refine lv_if_eq (tgt := 90) hx hb dX12_wind_58 (by decide) (fun _ => ?_) (fun c9 => absurd (by decide) c9)
          refine lv_bipush (v := (-2)) hx hb dX12_wind_90 (by decide) ?_
          have hpost : ((0 ≤ p0 ∧ p0 < p1 ∧ p1 ≤ 240 ∧ 0 ≤ p2 ∧ p2 ≤ 4444 ∧ p2 / 100 - p2 / 100 / 10 * 10 ≤ 4 ∧ p2 / 10 - p2 / 10 / 10 * 10 ≤ 4 ∧ p2 - p2 / 10 * 10 ≤ 4 ∧ p2 / 1000 ≤ p2 / 100 - p2 / 100 / 10 * 10 ∧ p2 / 10 - p2 / 10 / 10 * 10 ≤ p2 - p2 / 10 * 10) ∧ ((-2) : Int32) = 1) ∨ ((¬ (0 ≤ p0 ∧ p0 < p1 ∧ p1 ≤ 240 ∧ 0 ≤ p2 ∧ p2 ≤ 4444 ∧ p2 / 100 - p2 / 100 / 10 * 10 ≤ 4 ∧ p2 / 10 - p2 / 10 / 10 * 10 ≤ 4 ∧ p2 - p2 / 10 * 10 ≤ 4 ∧ p2 / 1000 ≤ p2 / 100 - p2 / 100 / 10 * 10 ∧ p2 / 10 - p2 / 10 / 10 * 10 ≤ p2 - p2 / 10 * 10)) ∧ ((-2) : Int32) = (-2)) := by
            try simp only [fa_lt, fa_le, fa_eq, fa_lt64, fa_le64, fa_eq64, Int32.reduceToInt, Int64.reduceToInt, zi_ite] at b_2
            try simp only [fa_lt, fa_le, fa_eq, fa_lt64, fa_le64, fa_eq64, Int32.reduceToInt, Int64.reduceToInt, zi_ite] at b_4
            try simp only [fa_lt, fa_le, fa_eq, fa_lt64, fa_le64, fa_eq64, Int32.reduceToInt, Int64.reduceToInt, zi_ite] at c_5
            try simp only [fa_lt, fa_le, fa_eq, fa_lt64, fa_le64, fa_eq64, Int32.reduceToInt, Int64.reduceToInt, zi_ite] at c_6
            first
            | exact Or.inl ⟨by (try simp only [fa_lt, fa_le, fa_eq, fa_lt64, fa_le64, fa_eq64, Int32.reduceToInt, Int64.reduceToInt, zi_ite]); omega, rfl⟩
            | exact Or.inr (⟨by (try simp only [fa_lt, fa_le, fa_eq, fa_lt64, fa_le64, fa_eq64, Int32.reduceToInt, Int64.reduceToInt, zi_ite]); omega, rfl⟩)
          refine W.widen (k := 0) (n := 0) (by decide +kernel) (by decide +kernel) ?_
          exact W.iret (v := (-2)) hx hb hr (fun t ht hW => ⟨⟨(-2), (), rfl, hpost, trivial⟩, hS.F ht⟩) hS.2.2 dX12_wind_92
        · refine lv_iload_n hx hb dX12_wind_41 rfl (lv_at hl 3 rfl) ?_
          refine lv_bipush (v := 10) hx hb dX12_wind_42 (by decide) ?_
          refine lv_irem hx hb dX12_wind_44 (by decide) ?_
          refine lv_iconst (v := 4) hx hb dX12_wind_45 (by decide) ?_
          refine lv_icmp_gt (tgt := 53) hx hb dX12_wind_46 (by decide) (fun c_7 => ?_) (fun c_7 => ?_)
          · refine lv_iconst (v := 0) hx hb dX12_wind_53 (by decide) ?_
            refine lv_istore (lv' := [(4, .int 0), (0, .ref h0), (1, .int p0), (2, .int p1), (3, .int p2)]) hx hb dX12_wind_54 hl (by decide) rfl (fun ls hl => ?_)
            refine lv_iload hx hb dX12_wind_56 (lv_at hl 0 rfl) ?_
            refine lv_if_eq (tgt := 90) hx hb dX12_wind_58 (by decide) (fun _ => ?_) (fun c9 => absurd (by decide) c9)
            refine lv_bipush (v := (-2)) hx hb dX12_wind_90 (by decide) ?_
            have hpost : ((0 ≤ p0 ∧ p0 < p1 ∧ p1 ≤ 240 ∧ 0 ≤ p2 ∧ p2 ≤ 4444 ∧ p2 / 100 - p2 / 100 / 10 * 10 ≤ 4 ∧ p2 / 10 - p2 / 10 / 10 * 10 ≤ 4 ∧ p2 - p2 / 10 * 10 ≤ 4 ∧ p2 / 1000 ≤ p2 / 100 - p2 / 100 / 10 * 10 ∧ p2 / 10 - p2 / 10 / 10 * 10 ≤ p2 - p2 / 10 * 10) ∧ ((-2) : Int32) = 1) ∨ ((¬ (0 ≤ p0 ∧ p0 < p1 ∧ p1 ≤ 240 ∧ 0 ≤ p2 ∧ p2 ≤ 4444 ∧ p2 / 100 - p2 / 100 / 10 * 10 ≤ 4 ∧ p2 / 10 - p2 / 10 / 10 * 10 ≤ 4 ∧ p2 - p2 / 10 * 10 ≤ 4 ∧ p2 / 1000 ≤ p2 / 100 - p2 / 100 / 10 * 10 ∧ p2 / 10 - p2 / 10 / 10 * 10 ≤ p2 - p2 / 10 * 10)) ∧ ((-2) : Int32) = (-2)) := by
              try simp only [fa_lt, fa_le, fa_eq, fa_lt64, fa_le64, fa_eq64, Int32.reduceToInt, Int64.reduceToInt, zi_ite] at b_2
              try simp only [fa_lt, fa_le, fa_eq, fa_lt64, fa_le64, fa_eq64, Int32.reduceToInt, Int64.reduceToInt, zi_ite] at b_4
              try simp only [fa_lt, fa_le, fa_eq, fa_lt64, fa_le64, fa_eq64, Int32.reduceToInt, Int64.reduceToInt, zi_ite] at c_5
              try simp only [fa_lt, fa_le, fa_eq, fa_lt64, fa_le64, fa_eq64, Int32.reduceToInt, Int64.reduceToInt, zi_ite] at c_6
              try simp only [fa_lt, fa_le, fa_eq, fa_lt64, fa_le64, fa_eq64, Int32.reduceToInt, Int64.reduceToInt, zi_ite] at c_7
              first
              | exact Or.inl ⟨by (try simp only [fa_lt, fa_le, fa_eq, fa_lt64, fa_le64, fa_eq64, Int32.reduceToInt, Int64.reduceToInt, zi_ite]); omega, rfl⟩
              | exact Or.inr (⟨by (try simp only [fa_lt, fa_le, fa_eq, fa_lt64, fa_le64, fa_eq64, Int32.reduceToInt, Int64.reduceToInt, zi_ite]); omega, rfl⟩)
            refine W.widen (k := 0) (n := 0) (by decide +kernel) (by decide +kernel) ?_
            exact W.iret (v := (-2)) hx hb hr (fun t ht hW => ⟨⟨(-2), (), rfl, hpost, trivial⟩, hS.F ht⟩) hS.2.2 dX12_wind_92
          · refine lv_iconst (v := 1) hx hb dX12_wind_49 (by decide) ?_
            refine lv_goto (tgt := 54) hx hb dX12_wind_50 (by decide) ?_
            refine lv_istore (lv' := [(4, .int 1), (0, .ref h0), (1, .int p0), (2, .int p1), (3, .int p2)]) hx hb dX12_wind_54 hl (by decide) rfl (fun ls hl => ?_)
            refine lv_iload hx hb dX12_wind_56 (lv_at hl 0 rfl) ?_
            refine lv_if_eq (tgt := 90) hx hb dX12_wind_58 (by decide) (fun c9 => absurd c9 (by decide)) (fun _ => ?_)
            refine lv_iload_n hx hb dX12_wind_61 rfl (lv_at hl 4 rfl) ?_
            refine lv_sipush (v := 1000) hx hb dX12_wind_62 (by decide) ?_
            refine lv_idiv hx hb dX12_wind_65 (by decide) ?_
            refine lv_iload_n hx hb dX12_wind_66 rfl (lv_at hl 4 rfl) ?_
            refine lv_bipush (v := 100) hx hb dX12_wind_67 (by decide) ?_
            refine lv_idiv hx hb dX12_wind_69 (by decide) ?_
            refine lv_bipush (v := 10) hx hb dX12_wind_70 (by decide) ?_
            refine lv_irem hx hb dX12_wind_72 (by decide) ?_
            refine lv_icmp_gt (tgt := 90) hx hb dX12_wind_73 (by decide) (fun c_8 => ?_) (fun c_8 => ?_)
            · refine lv_bipush (v := (-2)) hx hb dX12_wind_90 (by decide) ?_
              have hpost : ((0 ≤ p0 ∧ p0 < p1 ∧ p1 ≤ 240 ∧ 0 ≤ p2 ∧ p2 ≤ 4444 ∧ p2 / 100 - p2 / 100 / 10 * 10 ≤ 4 ∧ p2 / 10 - p2 / 10 / 10 * 10 ≤ 4 ∧ p2 - p2 / 10 * 10 ≤ 4 ∧ p2 / 1000 ≤ p2 / 100 - p2 / 100 / 10 * 10 ∧ p2 / 10 - p2 / 10 / 10 * 10 ≤ p2 - p2 / 10 * 10) ∧ ((-2) : Int32) = 1) ∨ ((¬ (0 ≤ p0 ∧ p0 < p1 ∧ p1 ≤ 240 ∧ 0 ≤ p2 ∧ p2 ≤ 4444 ∧ p2 / 100 - p2 / 100 / 10 * 10 ≤ 4 ∧ p2 / 10 - p2 / 10 / 10 * 10 ≤ 4 ∧ p2 - p2 / 10 * 10 ≤ 4 ∧ p2 / 1000 ≤ p2 / 100 - p2 / 100 / 10 * 10 ∧ p2 / 10 - p2 / 10 / 10 * 10 ≤ p2 - p2 / 10 * 10)) ∧ ((-2) : Int32) = (-2)) := by
                try simp only [fa_lt, fa_le, fa_eq, fa_lt64, fa_le64, fa_eq64, Int32.reduceToInt, Int64.reduceToInt, zi_ite] at b_2
                try simp only [fa_lt, fa_le, fa_eq, fa_lt64, fa_le64, fa_eq64, Int32.reduceToInt, Int64.reduceToInt, zi_ite] at b_4
                try simp only [fa_lt, fa_le, fa_eq, fa_lt64, fa_le64, fa_eq64, Int32.reduceToInt, Int64.reduceToInt, zi_ite] at c_5
                try simp only [fa_lt, fa_le, fa_eq, fa_lt64, fa_le64, fa_eq64, Int32.reduceToInt, Int64.reduceToInt, zi_ite] at c_6
                try simp only [fa_lt, fa_le, fa_eq, fa_lt64, fa_le64, fa_eq64, Int32.reduceToInt, Int64.reduceToInt, zi_ite] at c_7
                try simp only [fa_lt, fa_le, fa_eq, fa_lt64, fa_le64, fa_eq64, Int32.reduceToInt, Int64.reduceToInt, zi_ite] at c_8
                first
                | exact Or.inl ⟨by (try simp only [fa_lt, fa_le, fa_eq, fa_lt64, fa_le64, fa_eq64, Int32.reduceToInt, Int64.reduceToInt, zi_ite]); omega, rfl⟩
                | exact Or.inr (⟨by (try simp only [fa_lt, fa_le, fa_eq, fa_lt64, fa_le64, fa_eq64, Int32.reduceToInt, Int64.reduceToInt, zi_ite]); omega, rfl⟩)
              refine W.widen (k := 0) (n := 0) (by decide +kernel) (by decide +kernel) ?_
              exact W.iret (v := (-2)) hx hb hr (fun t ht hW => ⟨⟨(-2), (), rfl, hpost, trivial⟩, hS.F ht⟩) hS.2.2 dX12_wind_92
            · refine lv_iload_n hx hb dX12_wind_76 rfl (lv_at hl 4 rfl) ?_
              refine lv_bipush (v := 10) hx hb dX12_wind_77 (by decide) ?_
              refine lv_idiv hx hb dX12_wind_79 (by decide) ?_
              refine lv_bipush (v := 10) hx hb dX12_wind_80 (by decide) ?_
              refine lv_irem hx hb dX12_wind_82 (by decide) ?_
              refine lv_iload_n hx hb dX12_wind_83 rfl (lv_at hl 4 rfl) ?_
              refine lv_bipush (v := 10) hx hb dX12_wind_84 (by decide) ?_
              refine lv_irem hx hb dX12_wind_86 (by decide) ?_
              refine lv_icmp_le (tgt := 93) hx hb dX12_wind_87 (by decide) (fun c_9 => ?_) (fun c_9 => ?_)
              · refine lv_aload_n hx hb dX12_wind_93 rfl (lv_at hl 1 rfl) ?_
                refine va_get (D := (dC, dI)) (ci := 12) (v := .int 0) (C := RX12) (T := TX12) (N := 79) hx hb hts (by decide +kernel) hown hK hP 0 rfl rfl 5 (by decide) (hts (.fieldLink RX12 211 "RedTentModel" "winds" "I") (by decide +kernel)) (fun _ h9 => h9) rfl dX12_wind_94 ?_
                refine lv_bipush (v := 30) hx hb dX12_wind_97 (by decide) ?_
                refine lv_icmp_ne (tgt := 105) hx hb dX12_wind_99 (by decide) (fun _ => ?_) (fun c9 => absurd c9 (by decide))
                refine lv_aload_n hx hb dX12_wind_105 rfl (lv_at hl 1 rfl) ?_
                refine va_get (D := (dC, dI)) (ci := 12) (v := .ref (am 2)) (C := RX12) (T := TX12) (N := 79) hx hb hts (by decide +kernel) hown hK hP 0 rfl rfl 2 (by decide) (hts (.fieldLink RX12 9 "RedTentModel" "windFrom" "[I") (by decide +kernel)) (fun _ h9 => h9) rfl dX12_wind_106 ?_
                refine lv_aload_n hx hb dX12_wind_109 rfl (lv_at hl 1 rfl) ?_
                refine va_get (D := (dC, dI)) (ci := 12) (v := .int 0) (C := RX12) (T := TX12) (N := 79) hx hb hts (by decide +kernel) hown hK hP 0 rfl rfl 5 (by decide) (hts (.fieldLink RX12 211 "RedTentModel" "winds" "I") (by decide +kernel)) (fun _ h9 => h9) rfl dX12_wind_110 ?_
                refine lv_iload_n hx hb dX12_wind_113 rfl (lv_at hl 2 rfl) ?_
                refine va_iast hx hb hK hP hD hS 1 0 rfl rfl (by unfold vp_in; decide) dX12_wind_114 (fun H locs hP hD hS => ?_)
                have hP : va_P (dC, dI) vwCl [(h0, .inr (12, [.int 0, .int 0, .ref (am 2), .ref (am 3), .ref (am 4), .int 0, .ref (am 6), .ref (am 7), .ref (am 8), .int 0, .ref (am 10), .ref (am 11), .ref (am 12), .ref (am 13), .ref (am 14), .ref (am 15), .int 0, .ref (am 17), .ref (am 18), .ref (am 19), .ref (am 20), .int 0, .ref (am 22), .int 0, .ref (am 24), .ref (am 25), .ref (am 26), .ref (am 27), .ref (am 28), .ref (am 29), .int 0, .ref (am 31), .ref (am 32), .ref (am 33), .int 0, .ref (am 35), .int 0, .ref (am 37), .ref (am 38), .ref (am 39), .ref (am 40), .ref (am 41), .ref (am 42), .ref (am 43), .int 0, .ref (am 45), .ref (am 46), .ref (am 47), .int 0, .ref (am 49), .int 0, .ref (am 51), .int 0, .ref (am 53), .ref (am 54), .int 1, .int 0, .ref (am 57), .long 0, .ref (am 59), .ref (am 60), .long 0, .int 0, .int 0, .int 0, .int 0, .int 0, .int 0, .ref (am 68), .int 0, .int 0, .ref (am 71), .ref (am 72), .ref (am 73), .ref (am 74), .ref (am 75), .ref (am 76), .ref (am 77), .ref (am 78)])), (am 2, .inl (cs 2, 30, .inl (upd (fs 2) (0 : Int32).toNatClampNeg p0))), (am 3, .inl (cs 3, 30, .inl (fs 3))), (am 4, .inl (cs 4, 30, .inl (fs 4)))] H := hP
                have hD : va_D A [(h0, .inr (12, [.int 0, .int 0, .ref (am 2), .ref (am 3), .ref (am 4), .int 0, .ref (am 6), .ref (am 7), .ref (am 8), .int 0, .ref (am 10), .ref (am 11), .ref (am 12), .ref (am 13), .ref (am 14), .ref (am 15), .int 0, .ref (am 17), .ref (am 18), .ref (am 19), .ref (am 20), .int 0, .ref (am 22), .int 0, .ref (am 24), .ref (am 25), .ref (am 26), .ref (am 27), .ref (am 28), .ref (am 29), .int 0, .ref (am 31), .ref (am 32), .ref (am 33), .int 0, .ref (am 35), .int 0, .ref (am 37), .ref (am 38), .ref (am 39), .ref (am 40), .ref (am 41), .ref (am 42), .ref (am 43), .int 0, .ref (am 45), .ref (am 46), .ref (am 47), .int 0, .ref (am 49), .int 0, .ref (am 51), .int 0, .ref (am 53), .ref (am 54), .int 1, .int 0, .ref (am 57), .long 0, .ref (am 59), .ref (am 60), .long 0, .int 0, .int 0, .int 0, .int 0, .int 0, .int 0, .ref (am 68), .int 0, .int 0, .ref (am 71), .ref (am 72), .ref (am 73), .ref (am 74), .ref (am 75), .ref (am 76), .ref (am 77), .ref (am 78)])), (am 2, .inl (cs 2, 30, .inl (upd (fs 2) (0 : Int32).toNatClampNeg p0))), (am 3, .inl (cs 3, 30, .inl (fs 3))), (am 4, .inl (cs 4, 30, .inl (fs 4)))] := hD
                refine lv_aload_n hx hb dX12_wind_115 rfl (lv_at hl 1 rfl) ?_
                refine va_get (D := (dC, dI)) (ci := 12) (v := .ref (am 3)) (C := RX12) (T := TX12) (N := 79) hx hb hts (by decide +kernel) hown hK hP 0 rfl rfl 3 (by decide) (hts (.fieldLink RX12 13 "RedTentModel" "windTo" "[I") (by decide +kernel)) (fun _ h9 => h9) rfl dX12_wind_116 ?_
                refine lv_aload_n hx hb dX12_wind_119 rfl (lv_at hl 1 rfl) ?_
                refine va_get (D := (dC, dI)) (ci := 12) (v := .int 0) (C := RX12) (T := TX12) (N := 79) hx hb hts (by decide +kernel) hown hK hP 0 rfl rfl 5 (by decide) (hts (.fieldLink RX12 211 "RedTentModel" "winds" "I") (by decide +kernel)) (fun _ h9 => h9) rfl dX12_wind_120 ?_
                refine lv_iload_n hx hb dX12_wind_123 rfl (lv_at hl 3 rfl) ?_
                refine va_iast hx hb hK hP hD hS 2 1 rfl rfl (by unfold vp_in; decide) dX12_wind_124 (fun H locs hP hD hS => ?_)
                have hP : va_P (dC, dI) vwCl [(h0, .inr (12, [.int 0, .int 0, .ref (am 2), .ref (am 3), .ref (am 4), .int 0, .ref (am 6), .ref (am 7), .ref (am 8), .int 0, .ref (am 10), .ref (am 11), .ref (am 12), .ref (am 13), .ref (am 14), .ref (am 15), .int 0, .ref (am 17), .ref (am 18), .ref (am 19), .ref (am 20), .int 0, .ref (am 22), .int 0, .ref (am 24), .ref (am 25), .ref (am 26), .ref (am 27), .ref (am 28), .ref (am 29), .int 0, .ref (am 31), .ref (am 32), .ref (am 33), .int 0, .ref (am 35), .int 0, .ref (am 37), .ref (am 38), .ref (am 39), .ref (am 40), .ref (am 41), .ref (am 42), .ref (am 43), .int 0, .ref (am 45), .ref (am 46), .ref (am 47), .int 0, .ref (am 49), .int 0, .ref (am 51), .int 0, .ref (am 53), .ref (am 54), .int 1, .int 0, .ref (am 57), .long 0, .ref (am 59), .ref (am 60), .long 0, .int 0, .int 0, .int 0, .int 0, .int 0, .int 0, .ref (am 68), .int 0, .int 0, .ref (am 71), .ref (am 72), .ref (am 73), .ref (am 74), .ref (am 75), .ref (am 76), .ref (am 77), .ref (am 78)])), (am 2, .inl (cs 2, 30, .inl (upd (fs 2) (0 : Int32).toNatClampNeg p0))), (am 3, .inl (cs 3, 30, .inl (upd (fs 3) (0 : Int32).toNatClampNeg p1))), (am 4, .inl (cs 4, 30, .inl (fs 4)))] H := hP
                have hD : va_D A [(h0, .inr (12, [.int 0, .int 0, .ref (am 2), .ref (am 3), .ref (am 4), .int 0, .ref (am 6), .ref (am 7), .ref (am 8), .int 0, .ref (am 10), .ref (am 11), .ref (am 12), .ref (am 13), .ref (am 14), .ref (am 15), .int 0, .ref (am 17), .ref (am 18), .ref (am 19), .ref (am 20), .int 0, .ref (am 22), .int 0, .ref (am 24), .ref (am 25), .ref (am 26), .ref (am 27), .ref (am 28), .ref (am 29), .int 0, .ref (am 31), .ref (am 32), .ref (am 33), .int 0, .ref (am 35), .int 0, .ref (am 37), .ref (am 38), .ref (am 39), .ref (am 40), .ref (am 41), .ref (am 42), .ref (am 43), .int 0, .ref (am 45), .ref (am 46), .ref (am 47), .int 0, .ref (am 49), .int 0, .ref (am 51), .int 0, .ref (am 53), .ref (am 54), .int 1, .int 0, .ref (am 57), .long 0, .ref (am 59), .ref (am 60), .long 0, .int 0, .int 0, .int 0, .int 0, .int 0, .int 0, .ref (am 68), .int 0, .int 0, .ref (am 71), .ref (am 72), .ref (am 73), .ref (am 74), .ref (am 75), .ref (am 76), .ref (am 77), .ref (am 78)])), (am 2, .inl (cs 2, 30, .inl (upd (fs 2) (0 : Int32).toNatClampNeg p0))), (am 3, .inl (cs 3, 30, .inl (upd (fs 3) (0 : Int32).toNatClampNeg p1))), (am 4, .inl (cs 4, 30, .inl (fs 4)))] := hD
                refine lv_aload_n hx hb dX12_wind_125 rfl (lv_at hl 1 rfl) ?_
                refine va_get (D := (dC, dI)) (ci := 12) (v := .ref (am 4)) (C := RX12) (T := TX12) (N := 79) hx hb hts (by decide +kernel) hown hK hP 0 rfl rfl 4 (by decide) (hts (.fieldLink RX12 16 "RedTentModel" "windBy" "[I") (by decide +kernel)) (fun _ h9 => h9) rfl dX12_wind_126 ?_
                refine lv_aload_n hx hb dX12_wind_129 rfl (lv_at hl 1 rfl) ?_
                refine va_get (D := (dC, dI)) (ci := 12) (v := .int 0) (C := RX12) (T := TX12) (N := 79) hx hb hts (by decide +kernel) hown hK hP 0 rfl rfl 5 (by decide) (hts (.fieldLink RX12 211 "RedTentModel" "winds" "I") (by decide +kernel)) (fun _ h9 => h9) rfl dX12_wind_130 ?_
                refine lv_iload_n hx hb dX12_wind_133 rfl (lv_at hl 4 rfl) ?_
                refine va_iast hx hb hK hP hD hS 3 2 rfl rfl (by unfold vp_in; decide) dX12_wind_134 (fun H locs hP hD hS => ?_)
                have hP : va_P (dC, dI) vwCl [(h0, .inr (12, [.int 0, .int 0, .ref (am 2), .ref (am 3), .ref (am 4), .int 0, .ref (am 6), .ref (am 7), .ref (am 8), .int 0, .ref (am 10), .ref (am 11), .ref (am 12), .ref (am 13), .ref (am 14), .ref (am 15), .int 0, .ref (am 17), .ref (am 18), .ref (am 19), .ref (am 20), .int 0, .ref (am 22), .int 0, .ref (am 24), .ref (am 25), .ref (am 26), .ref (am 27), .ref (am 28), .ref (am 29), .int 0, .ref (am 31), .ref (am 32), .ref (am 33), .int 0, .ref (am 35), .int 0, .ref (am 37), .ref (am 38), .ref (am 39), .ref (am 40), .ref (am 41), .ref (am 42), .ref (am 43), .int 0, .ref (am 45), .ref (am 46), .ref (am 47), .int 0, .ref (am 49), .int 0, .ref (am 51), .int 0, .ref (am 53), .ref (am 54), .int 1, .int 0, .ref (am 57), .long 0, .ref (am 59), .ref (am 60), .long 0, .int 0, .int 0, .int 0, .int 0, .int 0, .int 0, .ref (am 68), .int 0, .int 0, .ref (am 71), .ref (am 72), .ref (am 73), .ref (am 74), .ref (am 75), .ref (am 76), .ref (am 77), .ref (am 78)])), (am 2, .inl (cs 2, 30, .inl (upd (fs 2) (0 : Int32).toNatClampNeg p0))), (am 3, .inl (cs 3, 30, .inl (upd (fs 3) (0 : Int32).toNatClampNeg p1))), (am 4, .inl (cs 4, 30, .inl (upd (fs 4) (0 : Int32).toNatClampNeg p2)))] H := hP
                have hD : va_D A [(h0, .inr (12, [.int 0, .int 0, .ref (am 2), .ref (am 3), .ref (am 4), .int 0, .ref (am 6), .ref (am 7), .ref (am 8), .int 0, .ref (am 10), .ref (am 11), .ref (am 12), .ref (am 13), .ref (am 14), .ref (am 15), .int 0, .ref (am 17), .ref (am 18), .ref (am 19), .ref (am 20), .int 0, .ref (am 22), .int 0, .ref (am 24), .ref (am 25), .ref (am 26), .ref (am 27), .ref (am 28), .ref (am 29), .int 0, .ref (am 31), .ref (am 32), .ref (am 33), .int 0, .ref (am 35), .int 0, .ref (am 37), .ref (am 38), .ref (am 39), .ref (am 40), .ref (am 41), .ref (am 42), .ref (am 43), .int 0, .ref (am 45), .ref (am 46), .ref (am 47), .int 0, .ref (am 49), .int 0, .ref (am 51), .int 0, .ref (am 53), .ref (am 54), .int 1, .int 0, .ref (am 57), .long 0, .ref (am 59), .ref (am 60), .long 0, .int 0, .int 0, .int 0, .int 0, .int 0, .int 0, .ref (am 68), .int 0, .int 0, .ref (am 71), .ref (am 72), .ref (am 73), .ref (am 74), .ref (am 75), .ref (am 76), .ref (am 77), .ref (am 78)])), (am 2, .inl (cs 2, 30, .inl (upd (fs 2) (0 : Int32).toNatClampNeg p0))), (am 3, .inl (cs 3, 30, .inl (upd (fs 3) (0 : Int32).toNatClampNeg p1))), (am 4, .inl (cs 4, 30, .inl (upd (fs 4) (0 : Int32).toNatClampNeg p2)))] := hD
                refine lv_aload_n hx hb dX12_wind_135 rfl (lv_at hl 1 rfl) ?_
                refine lv_dup hx hb dX12_wind_136 rfl ?_
                refine va_get (D := (dC, dI)) (ci := 12) (v := .int 0) (C := RX12) (T := TX12) (N := 79) hx hb hts (by decide +kernel) hown hK hP 0 rfl rfl 5 (by decide) (hts (.fieldLink RX12 211 "RedTentModel" "winds" "I") (by decide +kernel)) (fun _ h9 => h9) rfl dX12_wind_137 ?_
                refine lv_iconst (v := 1) hx hb dX12_wind_140 (by decide) ?_
                refine lv_iadd hx hb dX12_wind_141 ?_
                refine lv_topi (fun y_10 ey_10 => ?_)
                obtain rfl : y_10 = 1 := ey_10.trans (by decide)
                refine va_put (D := (dC, dI)) (ci := 12) (v := .int 1) (ty := .int) (C := RX12) (T := TX12) (N := 79) hx hb hts (by decide +kernel) tyX12 tyX12_ok nmX12 hown hK hP hD hS 0 rfl rfl 5 (by decide) (hts (.fieldLink RX12 211 "RedTentModel" "winds" "I") (by decide +kernel)) (fun _ h9 => h9) rfl (by decide +kernel) rfl rfl (Nat.le_of_ble_eq_true rfl) dX12_wind_142 (fun H locs hP hD hS => ?_)
                have hP : va_P (dC, dI) vwCl [(h0, .inr (12, [.int 0, .int 0, .ref (am 2), .ref (am 3), .ref (am 4), .int 1, .ref (am 6), .ref (am 7), .ref (am 8), .int 0, .ref (am 10), .ref (am 11), .ref (am 12), .ref (am 13), .ref (am 14), .ref (am 15), .int 0, .ref (am 17), .ref (am 18), .ref (am 19), .ref (am 20), .int 0, .ref (am 22), .int 0, .ref (am 24), .ref (am 25), .ref (am 26), .ref (am 27), .ref (am 28), .ref (am 29), .int 0, .ref (am 31), .ref (am 32), .ref (am 33), .int 0, .ref (am 35), .int 0, .ref (am 37), .ref (am 38), .ref (am 39), .ref (am 40), .ref (am 41), .ref (am 42), .ref (am 43), .int 0, .ref (am 45), .ref (am 46), .ref (am 47), .int 0, .ref (am 49), .int 0, .ref (am 51), .int 0, .ref (am 53), .ref (am 54), .int 1, .int 0, .ref (am 57), .long 0, .ref (am 59), .ref (am 60), .long 0, .int 0, .int 0, .int 0, .int 0, .int 0, .int 0, .ref (am 68), .int 0, .int 0, .ref (am 71), .ref (am 72), .ref (am 73), .ref (am 74), .ref (am 75), .ref (am 76), .ref (am 77), .ref (am 78)])), (am 2, .inl (cs 2, 30, .inl (upd (fs 2) (0 : Int32).toNatClampNeg p0))), (am 3, .inl (cs 3, 30, .inl (upd (fs 3) (0 : Int32).toNatClampNeg p1))), (am 4, .inl (cs 4, 30, .inl (upd (fs 4) (0 : Int32).toNatClampNeg p2)))] H := hP
                have hD : va_D A [(h0, .inr (12, [.int 0, .int 0, .ref (am 2), .ref (am 3), .ref (am 4), .int 1, .ref (am 6), .ref (am 7), .ref (am 8), .int 0, .ref (am 10), .ref (am 11), .ref (am 12), .ref (am 13), .ref (am 14), .ref (am 15), .int 0, .ref (am 17), .ref (am 18), .ref (am 19), .ref (am 20), .int 0, .ref (am 22), .int 0, .ref (am 24), .ref (am 25), .ref (am 26), .ref (am 27), .ref (am 28), .ref (am 29), .int 0, .ref (am 31), .ref (am 32), .ref (am 33), .int 0, .ref (am 35), .int 0, .ref (am 37), .ref (am 38), .ref (am 39), .ref (am 40), .ref (am 41), .ref (am 42), .ref (am 43), .int 0, .ref (am 45), .ref (am 46), .ref (am 47), .int 0, .ref (am 49), .int 0, .ref (am 51), .int 0, .ref (am 53), .ref (am 54), .int 1, .int 0, .ref (am 57), .long 0, .ref (am 59), .ref (am 60), .long 0, .int 0, .int 0, .int 0, .int 0, .int 0, .int 0, .ref (am 68), .int 0, .int 0, .ref (am 71), .ref (am 72), .ref (am 73), .ref (am 74), .ref (am 75), .ref (am 76), .ref (am 77), .ref (am 78)])), (am 2, .inl (cs 2, 30, .inl (upd (fs 2) (0 : Int32).toNatClampNeg p0))), (am 3, .inl (cs 3, 30, .inl (upd (fs 3) (0 : Int32).toNatClampNeg p1))), (am 4, .inl (cs 4, 30, .inl (upd (fs 4) (0 : Int32).toNatClampNeg p2)))] := hD
                refine lv_aload_n hx hb dX12_wind_145 rfl (lv_at hl 1 rfl) ?_
                refine va_get (D := (dC, dI)) (ci := 12) (v := .int 1) (C := RX12) (T := TX12) (N := 79) hx hb hts (by decide +kernel) hown hK hP 0 rfl rfl 5 (by decide) (hts (.fieldLink RX12 211 "RedTentModel" "winds" "I") (by decide +kernel)) (fun _ h9 => h9) rfl dX12_wind_146 ?_
                have hpost : ((0 ≤ p0 ∧ p0 < p1 ∧ p1 ≤ 240 ∧ 0 ≤ p2 ∧ p2 ≤ 4444 ∧ p2 / 100 - p2 / 100 / 10 * 10 ≤ 4 ∧ p2 / 10 - p2 / 10 / 10 * 10 ≤ 4 ∧ p2 - p2 / 10 * 10 ≤ 4 ∧ p2 / 1000 ≤ p2 / 100 - p2 / 100 / 10 * 10 ∧ p2 / 10 - p2 / 10 / 10 * 10 ≤ p2 - p2 / 10 * 10) ∧ (1 : Int32) = 1) ∨ ((¬ (0 ≤ p0 ∧ p0 < p1 ∧ p1 ≤ 240 ∧ 0 ≤ p2 ∧ p2 ≤ 4444 ∧ p2 / 100 - p2 / 100 / 10 * 10 ≤ 4 ∧ p2 / 10 - p2 / 10 / 10 * 10 ≤ 4 ∧ p2 - p2 / 10 * 10 ≤ 4 ∧ p2 / 1000 ≤ p2 / 100 - p2 / 100 / 10 * 10 ∧ p2 / 10 - p2 / 10 / 10 * 10 ≤ p2 - p2 / 10 * 10)) ∧ (1 : Int32) = (-2)) := by
                  try simp only [fa_lt, fa_le, fa_eq, fa_lt64, fa_le64, fa_eq64, Int32.reduceToInt, Int64.reduceToInt, zi_ite] at b_2
                  try simp only [fa_lt, fa_le, fa_eq, fa_lt64, fa_le64, fa_eq64, Int32.reduceToInt, Int64.reduceToInt, zi_ite] at b_4
                  try simp only [fa_lt, fa_le, fa_eq, fa_lt64, fa_le64, fa_eq64, Int32.reduceToInt, Int64.reduceToInt, zi_ite] at c_5
                  try simp only [fa_lt, fa_le, fa_eq, fa_lt64, fa_le64, fa_eq64, Int32.reduceToInt, Int64.reduceToInt, zi_ite] at c_6
                  try simp only [fa_lt, fa_le, fa_eq, fa_lt64, fa_le64, fa_eq64, Int32.reduceToInt, Int64.reduceToInt, zi_ite] at c_7
                  try simp only [fa_lt, fa_le, fa_eq, fa_lt64, fa_le64, fa_eq64, Int32.reduceToInt, Int64.reduceToInt, zi_ite] at c_8
                  try simp only [fa_lt, fa_le, fa_eq, fa_lt64, fa_le64, fa_eq64, Int32.reduceToInt, Int64.reduceToInt, zi_ite] at c_9
                  first
                  | exact Or.inl ⟨by (try simp only [fa_lt, fa_le, fa_eq, fa_lt64, fa_le64, fa_eq64, Int32.reduceToInt, Int64.reduceToInt, zi_ite]); omega, rfl⟩
                  | exact Or.inr (⟨by (try simp only [fa_lt, fa_le, fa_eq, fa_lt64, fa_le64, fa_eq64, Int32.reduceToInt, Int64.reduceToInt, zi_ite]); omega, rfl⟩)
                refine W.widen (k := 0) (n := 0) (by decide +kernel) (by decide +kernel) ?_
                exact W.iret (v := 1) hx hb hr (fun t ht hW => ⟨⟨1, (), rfl, hpost, trivial⟩, hS.F ht⟩) hS.2.2 dX12_wind_149
              · refine lv_bipush (v := (-2)) hx hb dX12_wind_90 (by decide) ?_
                have hpost : ((0 ≤ p0 ∧ p0 < p1 ∧ p1 ≤ 240 ∧ 0 ≤ p2 ∧ p2 ≤ 4444 ∧ p2 / 100 - p2 / 100 / 10 * 10 ≤ 4 ∧ p2 / 10 - p2 / 10 / 10 * 10 ≤ 4 ∧ p2 - p2 / 10 * 10 ≤ 4 ∧ p2 / 1000 ≤ p2 / 100 - p2 / 100 / 10 * 10 ∧ p2 / 10 - p2 / 10 / 10 * 10 ≤ p2 - p2 / 10 * 10) ∧ ((-2) : Int32) = 1) ∨ ((¬ (0 ≤ p0 ∧ p0 < p1 ∧ p1 ≤ 240 ∧ 0 ≤ p2 ∧ p2 ≤ 4444 ∧ p2 / 100 - p2 / 100 / 10 * 10 ≤ 4 ∧ p2 / 10 - p2 / 10 / 10 * 10 ≤ 4 ∧ p2 - p2 / 10 * 10 ≤ 4 ∧ p2 / 1000 ≤ p2 / 100 - p2 / 100 / 10 * 10 ∧ p2 / 10 - p2 / 10 / 10 * 10 ≤ p2 - p2 / 10 * 10)) ∧ ((-2) : Int32) = (-2)) := by
                  try simp only [fa_lt, fa_le, fa_eq, fa_lt64, fa_le64, fa_eq64, Int32.reduceToInt, Int64.reduceToInt, zi_ite] at b_2
                  try simp only [fa_lt, fa_le, fa_eq, fa_lt64, fa_le64, fa_eq64, Int32.reduceToInt, Int64.reduceToInt, zi_ite] at b_4
                  try simp only [fa_lt, fa_le, fa_eq, fa_lt64, fa_le64, fa_eq64, Int32.reduceToInt, Int64.reduceToInt, zi_ite] at c_5
                  try simp only [fa_lt, fa_le, fa_eq, fa_lt64, fa_le64, fa_eq64, Int32.reduceToInt, Int64.reduceToInt, zi_ite] at c_6
                  try simp only [fa_lt, fa_le, fa_eq, fa_lt64, fa_le64, fa_eq64, Int32.reduceToInt, Int64.reduceToInt, zi_ite] at c_7
                  try simp only [fa_lt, fa_le, fa_eq, fa_lt64, fa_le64, fa_eq64, Int32.reduceToInt, Int64.reduceToInt, zi_ite] at c_8
                  try simp only [fa_lt, fa_le, fa_eq, fa_lt64, fa_le64, fa_eq64, Int32.reduceToInt, Int64.reduceToInt, zi_ite] at c_9
                  first
                  | exact Or.inl ⟨by (try simp only [fa_lt, fa_le, fa_eq, fa_lt64, fa_le64, fa_eq64, Int32.reduceToInt, Int64.reduceToInt, zi_ite]); omega, rfl⟩
                  | exact Or.inr (⟨by (try simp only [fa_lt, fa_le, fa_eq, fa_lt64, fa_le64, fa_eq64, Int32.reduceToInt, Int64.reduceToInt, zi_ite]); omega, rfl⟩)
                refine W.widen (k := 0) (n := 0) (by decide +kernel) (by decide +kernel) ?_
                exact W.iret (v := (-2)) hx hb hr (fun t ht hW => ⟨⟨(-2), (), rfl, hpost, trivial⟩, hS.F ht⟩) hS.2.2 dX12_wind_92
    · refine lv_if_eq (tgt := 53) hx hb dX12_wind_16 (by decide) (fun _ => ?_) (fun c9 => absurd (by decide) c9)
      refine lv_iconst (v := 0) hx hb dX12_wind_53 (by decide) ?_
      refine lv_istore (lv' := [(4, .int 0), (0, .ref h0), (1, .int p0), (2, .int p1), (3, .int p2)]) hx hb dX12_wind_54 hl (by decide) rfl (fun ls hl => ?_)
      refine lv_iload hx hb dX12_wind_56 (lv_at hl 0 rfl) ?_
      refine lv_if_eq (tgt := 90) hx hb dX12_wind_58 (by decide) (fun _ => ?_) (fun c9 => absurd (by decide) c9)
      refine lv_bipush (v := (-2)) hx hb dX12_wind_90 (by decide) ?_
      have hpost : ((0 ≤ p0 ∧ p0 < p1 ∧ p1 ≤ 240 ∧ 0 ≤ p2 ∧ p2 ≤ 4444 ∧ p2 / 100 - p2 / 100 / 10 * 10 ≤ 4 ∧ p2 / 10 - p2 / 10 / 10 * 10 ≤ 4 ∧ p2 - p2 / 10 * 10 ≤ 4 ∧ p2 / 1000 ≤ p2 / 100 - p2 / 100 / 10 * 10 ∧ p2 / 10 - p2 / 10 / 10 * 10 ≤ p2 - p2 / 10 * 10) ∧ ((-2) : Int32) = 1) ∨ ((¬ (0 ≤ p0 ∧ p0 < p1 ∧ p1 ≤ 240 ∧ 0 ≤ p2 ∧ p2 ≤ 4444 ∧ p2 / 100 - p2 / 100 / 10 * 10 ≤ 4 ∧ p2 / 10 - p2 / 10 / 10 * 10 ≤ 4 ∧ p2 - p2 / 10 * 10 ≤ 4 ∧ p2 / 1000 ≤ p2 / 100 - p2 / 100 / 10 * 10 ∧ p2 / 10 - p2 / 10 / 10 * 10 ≤ p2 - p2 / 10 * 10)) ∧ ((-2) : Int32) = (-2)) := by
        try simp only [fa_lt, fa_le, fa_eq, fa_lt64, fa_le64, fa_eq64, Int32.reduceToInt, Int64.reduceToInt, zi_ite] at b_2
        try simp only [fa_lt, fa_le, fa_eq, fa_lt64, fa_le64, fa_eq64, Int32.reduceToInt, Int64.reduceToInt, zi_ite] at b_4
        first
        | exact Or.inl ⟨by (try simp only [fa_lt, fa_le, fa_eq, fa_lt64, fa_le64, fa_eq64, Int32.reduceToInt, Int64.reduceToInt, zi_ite]); omega, rfl⟩
        | exact Or.inr (⟨by (try simp only [fa_lt, fa_le, fa_eq, fa_lt64, fa_le64, fa_eq64, Int32.reduceToInt, Int64.reduceToInt, zi_ite]); omega, rfl⟩)
      refine W.widen (k := 0) (n := 0) (by decide +kernel) (by decide +kernel) ?_
      exact W.iret (v := (-2)) hx hb hr (fun t ht hW => ⟨⟨(-2), (), rfl, hpost, trivial⟩, hS.F ht⟩) hS.2.2 dX12_wind_92
  · refine lv_if_eq (tgt := 53) hx hb dX12_wind_5 (by decide) (fun _ => ?_) (fun c9 => absurd (by decide) c9)
    refine lv_iconst (v := 0) hx hb dX12_wind_53 (by decide) ?_
    refine lv_istore (lv' := [(4, .int 0), (0, .ref h0), (1, .int p0), (2, .int p1), (3, .int p2)]) hx hb dX12_wind_54 hl (by decide) rfl (fun ls hl => ?_)
    refine lv_iload hx hb dX12_wind_56 (lv_at hl 0 rfl) ?_
    refine lv_if_eq (tgt := 90) hx hb dX12_wind_58 (by decide) (fun _ => ?_) (fun c9 => absurd (by decide) c9)
    refine lv_bipush (v := (-2)) hx hb dX12_wind_90 (by decide) ?_
    have hpost : ((0 ≤ p0 ∧ p0 < p1 ∧ p1 ≤ 240 ∧ 0 ≤ p2 ∧ p2 ≤ 4444 ∧ p2 / 100 - p2 / 100 / 10 * 10 ≤ 4 ∧ p2 / 10 - p2 / 10 / 10 * 10 ≤ 4 ∧ p2 - p2 / 10 * 10 ≤ 4 ∧ p2 / 1000 ≤ p2 / 100 - p2 / 100 / 10 * 10 ∧ p2 / 10 - p2 / 10 / 10 * 10 ≤ p2 - p2 / 10 * 10) ∧ ((-2) : Int32) = 1) ∨ ((¬ (0 ≤ p0 ∧ p0 < p1 ∧ p1 ≤ 240 ∧ 0 ≤ p2 ∧ p2 ≤ 4444 ∧ p2 / 100 - p2 / 100 / 10 * 10 ≤ 4 ∧ p2 / 10 - p2 / 10 / 10 * 10 ≤ 4 ∧ p2 - p2 / 10 * 10 ≤ 4 ∧ p2 / 1000 ≤ p2 / 100 - p2 / 100 / 10 * 10 ∧ p2 / 10 - p2 / 10 / 10 * 10 ≤ p2 - p2 / 10 * 10)) ∧ ((-2) : Int32) = (-2)) := by
      try simp only [fa_lt, fa_le, fa_eq, fa_lt64, fa_le64, fa_eq64, Int32.reduceToInt, Int64.reduceToInt, zi_ite] at b_2
      first
      | exact Or.inl ⟨by (try simp only [fa_lt, fa_le, fa_eq, fa_lt64, fa_le64, fa_eq64, Int32.reduceToInt, Int64.reduceToInt, zi_ite]); omega, rfl⟩
      | exact Or.inr (⟨by (try simp only [fa_lt, fa_le, fa_eq, fa_lt64, fa_le64, fa_eq64, Int32.reduceToInt, Int64.reduceToInt, zi_ite]); omega, rfl⟩)
    refine W.widen (k := 0) (n := 0) (by decide +kernel) (by decide +kernel) ?_
    exact W.iret (v := (-2)) hx hb hr (fun t ht hW => ⟨⟨(-2), (), rfl, hpost, trivial⟩, hS.F ht⟩) hS.2.2 dX12_wind_92
set_option maxHeartbeats 1000000 in
set_option maxRecDepth 100000 in
theorem rt_X12_fog (l : Launch) (dC : Nat → ClassId) (dI : Nat → Nat → Nat) (sz : Nat) (h0 : Nat) (am : Nat → Nat) (cs : Nat → ClassId) (fs : Nat → Nat → Int32) (p0 p1 p2 : Int32) : Met l yX12_fog wsX12_fog ({ frames := 2, cells := 0, slots := 0, locals := 43 }) (va_Pc [.ref h0, .int p0, .int p1, .int p2] (fun U => U.heap.size = sz ∧ va_P (dC, dI) vwCl [(h0, .inr (12, [.int 0, .int 0, .ref (am 2), .ref (am 3), .ref (am 4), .int 0, .ref (am 6), .ref (am 7), .ref (am 8), .int 0, .ref (am 10), .ref (am 11), .ref (am 12), .ref (am 13), .ref (am 14), .ref (am 15), .int 0, .ref (am 17), .ref (am 18), .ref (am 19), .ref (am 20), .int 0, .ref (am 22), .int 0, .ref (am 24), .ref (am 25), .ref (am 26), .ref (am 27), .ref (am 28), .ref (am 29), .int 0, .ref (am 31), .ref (am 32), .ref (am 33), .int 0, .ref (am 35), .int 0, .ref (am 37), .ref (am 38), .ref (am 39), .ref (am 40), .ref (am 41), .ref (am 42), .ref (am 43), .int 0, .ref (am 45), .ref (am 46), .ref (am 47), .int 0, .ref (am 49), .int 0, .ref (am 51), .int 0, .ref (am 53), .ref (am 54), .int 1, .int 0, .ref (am 57), .long 0, .ref (am 59), .ref (am 60), .long 0, .int 0, .int 0, .int 0, .int 0, .int 0, .int 0, .ref (am 68), .int 0, .int 0, .ref (am 71), .ref (am 72), .ref (am 73), .ref (am 74), .ref (am 75), .ref (am 76), .ref (am 77), .ref (am 78)])), (am 6, .inl (cs 6, 30, .inl (fs 6))), (am 7, .inl (cs 7, 30, .inl (fs 7))), (am 8, .inl (cs 8, 30, .inl (fs 8)))] U.heap ∧ va_K (dC, dI) vwCl [(cs 6, .int), (cs 7, .int), (cs 8, .int)] U ∧ va_D (fun _ => True) [(h0, .inr (12, [.int 0, .int 0, .ref (am 2), .ref (am 3), .ref (am 4), .int 0, .ref (am 6), .ref (am 7), .ref (am 8), .int 0, .ref (am 10), .ref (am 11), .ref (am 12), .ref (am 13), .ref (am 14), .ref (am 15), .int 0, .ref (am 17), .ref (am 18), .ref (am 19), .ref (am 20), .int 0, .ref (am 22), .int 0, .ref (am 24), .ref (am 25), .ref (am 26), .ref (am 27), .ref (am 28), .ref (am 29), .int 0, .ref (am 31), .ref (am 32), .ref (am 33), .int 0, .ref (am 35), .int 0, .ref (am 37), .ref (am 38), .ref (am 39), .ref (am 40), .ref (am 41), .ref (am 42), .ref (am 43), .int 0, .ref (am 45), .ref (am 46), .ref (am 47), .int 0, .ref (am 49), .int 0, .ref (am 51), .int 0, .ref (am 53), .ref (am 54), .int 1, .int 0, .ref (am 57), .long 0, .ref (am 59), .ref (am 60), .long 0, .int 0, .int 0, .int 0, .int 0, .int 0, .int 0, .ref (am 68), .int 0, .int 0, .ref (am 71), .ref (am 72), .ref (am 73), .ref (am 74), .ref (am 75), .ref (am 76), .ref (am 77), .ref (am 78)])), (am 6, .inl (cs 6, 30, .inl (fs 6))), (am 7, .inl (cs 7, 30, .inl (fs 7))), (am 8, .inl (cs 8, 30, .inl (fs 8)))])) (va_Qi (fun (r : Int32) (u : Unit) => match u with | () => ((0 ≤ p0 ∧ p0 < p1 ∧ p1 ≤ 240 ∧ 0 ≤ p2 ∧ p2 ≤ 16) ∧ r = 1) ∨ ((¬ (0 ≤ p0 ∧ p0 < p1 ∧ p1 ≤ 240 ∧ 0 ≤ p2 ∧ p2 ≤ 16)) ∧ r = (-2))) (fun (u : Unit) (t : State) => match u with | () => True) (va_A [(h0, .inr (12, [.int 0, .int 0, .ref (am 2), .ref (am 3), .ref (am 4), .int 0, .ref (am 6), .ref (am 7), .ref (am 8), .int 0, .ref (am 10), .ref (am 11), .ref (am 12), .ref (am 13), .ref (am 14), .ref (am 15), .int 0, .ref (am 17), .ref (am 18), .ref (am 19), .ref (am 20), .int 0, .ref (am 22), .int 0, .ref (am 24), .ref (am 25), .ref (am 26), .ref (am 27), .ref (am 28), .ref (am 29), .int 0, .ref (am 31), .ref (am 32), .ref (am 33), .int 0, .ref (am 35), .int 0, .ref (am 37), .ref (am 38), .ref (am 39), .ref (am 40), .ref (am 41), .ref (am 42), .ref (am 43), .int 0, .ref (am 45), .ref (am 46), .ref (am 47), .int 0, .ref (am 49), .int 0, .ref (am 51), .int 0, .ref (am 53), .ref (am 54), .int 1, .int 0, .ref (am 57), .long 0, .ref (am 59), .ref (am 60), .long 0, .int 0, .int 0, .int 0, .int 0, .int 0, .int 0, .ref (am 68), .int 0, .int 0, .ref (am 71), .ref (am 72), .ref (am 73), .ref (am 74), .ref (am 75), .ref (am 76), .ref (am 77), .ref (am 78)])), (am 6, .inl (cs 6, 30, .inl (fs 6))), (am 7, .inl (cs 7, 30, .inl (fs 7))), (am 8, .inl (cs 8, 30, .inl (fs 8)))] sz)) 0 0 (va_A [(h0, .inr (12, [.int 0, .int 0, .ref (am 2), .ref (am 3), .ref (am 4), .int 0, .ref (am 6), .ref (am 7), .ref (am 8), .int 0, .ref (am 10), .ref (am 11), .ref (am 12), .ref (am 13), .ref (am 14), .ref (am 15), .int 0, .ref (am 17), .ref (am 18), .ref (am 19), .ref (am 20), .int 0, .ref (am 22), .int 0, .ref (am 24), .ref (am 25), .ref (am 26), .ref (am 27), .ref (am 28), .ref (am 29), .int 0, .ref (am 31), .ref (am 32), .ref (am 33), .int 0, .ref (am 35), .int 0, .ref (am 37), .ref (am 38), .ref (am 39), .ref (am 40), .ref (am 41), .ref (am 42), .ref (am 43), .int 0, .ref (am 45), .ref (am 46), .ref (am 47), .int 0, .ref (am 49), .int 0, .ref (am 51), .int 0, .ref (am 53), .ref (am 54), .int 1, .int 0, .ref (am 57), .long 0, .ref (am 59), .ref (am 60), .long 0, .int 0, .int 0, .int 0, .int 0, .int 0, .int 0, .ref (am 68), .int 0, .int 0, .ref (am 71), .ref (am 72), .ref (am 73), .ref (am 74), .ref (am 75), .ref (am 76), .ref (am 77), .ref (am 78)])), (am 6, .inl (cs 6, 30, .inl (fs 6))), (am 7, .inl (cs 7, 30, .inl (fs 7))), (am 8, .inl (cs 8, 30, .inl (fs 8)))] sz) := by
  refine Met.ofW (cc := cX12_fog) (maxL := 4) (ret := (some .int)) (by decide) rfl ?_
  intro p e s m args below meth c s₁ B hml hv
  obtain ⟨rfl, hsz, hP, hK, hD0⟩ := hv
  have hx := B.exec
  have hb := B.bytes
  have hr := B.returns
  have hts := atoms_spec (ws := wsX12_fog) B.pre
  have hown : s.vm.findClass RX12 = some m.cls := findClass_of_methodNamed B.named
  have hlocks := B.notSynchronized
  subst hsz
  have hD := hD0.self (sz := s.heap.size)
  generalize hAe : va_A [(h0, .inr (12, [.int 0, .int 0, .ref (am 2), .ref (am 3), .ref (am 4), .int 0, .ref (am 6), .ref (am 7), .ref (am 8), .int 0, .ref (am 10), .ref (am 11), .ref (am 12), .ref (am 13), .ref (am 14), .ref (am 15), .int 0, .ref (am 17), .ref (am 18), .ref (am 19), .ref (am 20), .int 0, .ref (am 22), .int 0, .ref (am 24), .ref (am 25), .ref (am 26), .ref (am 27), .ref (am 28), .ref (am 29), .int 0, .ref (am 31), .ref (am 32), .ref (am 33), .int 0, .ref (am 35), .int 0, .ref (am 37), .ref (am 38), .ref (am 39), .ref (am 40), .ref (am 41), .ref (am 42), .ref (am 43), .int 0, .ref (am 45), .ref (am 46), .ref (am 47), .int 0, .ref (am 49), .int 0, .ref (am 51), .int 0, .ref (am 53), .ref (am 54), .int 1, .int 0, .ref (am 57), .long 0, .ref (am 59), .ref (am 60), .long 0, .int 0, .int 0, .int 0, .int 0, .int 0, .int 0, .ref (am 68), .int 0, .int 0, .ref (am 71), .ref (am 72), .ref (am 73), .ref (am 74), .ref (am 75), .ref (am 76), .ref (am 77), .ref (am 78)])), (am 6, .inl (cs 6, 30, .inl (fs 6))), (am 7, .inl (cs 7, 30, .inl (fs 7))), (am 8, .inl (cs 8, 30, .inl (fs 8)))] s.heap.size = A at hD  ⊢
  have hA : ∀ q : Nat, s.heap.size ≤ q → A q := fun q h => by rw [← hAe]; exact Or.inr h
  have hS : va_S A s.heap s.heap [] := va_S.rf
  have hl := lv_entry ([.ref h0, .int p0, .int p1, .int p2]) (n := 4) (Nat.le_of_ble_eq_true rfl)
  rw [lg_entry_eq]
  generalize (lg_sl ([.ref h0, .int p0, .int p1, .int p2]) ++ List.replicate (4 - (lg_sl ([.ref h0, .int p0, .int p1, .int p2])).length) Slot.unset).toArray = ls at hl ⊢
  have hl : lv_has ls 4 [(0, .ref h0), (1, .int p0), (2, .int p1), (3, .int p2)] := hl
  refine lv_iload_n hx hb dX12_fog_0 rfl (lv_at hl 1 rfl) ?_
  refine lv_iload_n hx hb dX12_fog_1 rfl (lv_at hl 2 rfl) ?_
  refine vp_callSi (va_Run.run (va_runS (As := [.int p0, .int p1]) (rest := []) ⟨hx, hb, hml, hown, hts⟩ (rt_X12_areHours l p0 p1) (va_cwS 2 hts gX12_fog_X12_areHours rfl rfl rfl (by decide +kernel) ⟨Nat.le_of_ble_eq_true rfl, Nat.le_of_ble_eq_true rfl⟩) ⟨fun a U g mk q => q, fun U hU hW => ⟨rfl, trivial⟩⟩ rfl rfl hl.1 rfl (lv_room (Nat.le_of_ble_eq_true rfl)) dX12_fog_2 ⟨by decide +kernel, by decide +kernel⟩)) (fun r_1 hr_1 => ?_)
  rcases hr_1 with ⟨b_2, rfl⟩ | ⟨b_2, rfl⟩
  · refine lv_if_eq (tgt := 18) hx hb dX12_fog_5 (by decide) (fun c9 => absurd c9 (by decide)) (fun _ => ?_)
    refine lv_iload_n hx hb dX12_fog_8 rfl (lv_at hl 3 rfl) ?_
    refine lv_iconst (v := 0) hx hb dX12_fog_9 (by decide) ?_
    refine lv_bipush (v := 16) hx hb dX12_fog_10 (by decide) ?_
    refine vp_callSi (va_Run.run (va_runS (As := [.int p2, .int 0, .int 16]) (rest := []) ⟨hx, hb, hml, hown, hts⟩ (rt_X12_within l p2 0 16) (va_cwS 3 hts gX12_fog_X12_within rfl rfl rfl (by decide +kernel) ⟨Nat.le_of_ble_eq_true rfl, Nat.le_of_ble_eq_true rfl⟩) ⟨fun a U g mk q => q, fun U hU hW => ⟨rfl, trivial⟩⟩ rfl rfl hl.1 rfl (lv_room (Nat.le_of_ble_eq_true rfl)) dX12_fog_12 ⟨by decide +kernel, by decide +kernel⟩)) (fun r_3 hr_3 => ?_)
    rcases hr_3 with ⟨b_4, rfl⟩ | ⟨b_4, rfl⟩
    · refine lv_if_ne (tgt := 21) hx hb dX12_fog_15 (by decide) (fun _ => ?_) (fun c9 => absurd c9 (by decide))
      refine lv_aload_n hx hb dX12_fog_21 rfl (lv_at hl 0 rfl) ?_
      refine va_get (D := (dC, dI)) (ci := 12) (v := .int 0) (C := RX12) (T := TX12) (N := 79) hx hb hts (by decide +kernel) hown hK hP 0 rfl rfl 9 (by decide) (hts (.fieldLink RX12 214 "RedTentModel" "fogs" "I") (by decide +kernel)) (fun _ h9 => h9) rfl dX12_fog_22 ?_
      refine lv_bipush (v := 30) hx hb dX12_fog_25 (by decide) ?_
      refine lv_icmp_ne (tgt := 33) hx hb dX12_fog_27 (by decide) (fun _ => ?_) (fun c9 => absurd c9 (by decide))
      refine lv_aload_n hx hb dX12_fog_33 rfl (lv_at hl 0 rfl) ?_
      refine va_get (D := (dC, dI)) (ci := 12) (v := .ref (am 6)) (C := RX12) (T := TX12) (N := 79) hx hb hts (by decide +kernel) hown hK hP 0 rfl rfl 6 (by decide) (hts (.fieldLink RX12 19 "RedTentModel" "fogFrom" "[I") (by decide +kernel)) (fun _ h9 => h9) rfl dX12_fog_34 ?_
      refine lv_aload_n hx hb dX12_fog_37 rfl (lv_at hl 0 rfl) ?_
      refine va_get (D := (dC, dI)) (ci := 12) (v := .int 0) (C := RX12) (T := TX12) (N := 79) hx hb hts (by decide +kernel) hown hK hP 0 rfl rfl 9 (by decide) (hts (.fieldLink RX12 214 "RedTentModel" "fogs" "I") (by decide +kernel)) (fun _ h9 => h9) rfl dX12_fog_38 ?_
      refine lv_iload_n hx hb dX12_fog_41 rfl (lv_at hl 1 rfl) ?_
      refine va_iast hx hb hK hP hD hS 1 0 rfl rfl (by unfold vp_in; decide) dX12_fog_42 (fun H locs hP hD hS => ?_)
      have hP : va_P (dC, dI) vwCl [(h0, .inr (12, [.int 0, .int 0, .ref (am 2), .ref (am 3), .ref (am 4), .int 0, .ref (am 6), .ref (am 7), .ref (am 8), .int 0, .ref (am 10), .ref (am 11), .ref (am 12), .ref (am 13), .ref (am 14), .ref (am 15), .int 0, .ref (am 17), .ref (am 18), .ref (am 19), .ref (am 20), .int 0, .ref (am 22), .int 0, .ref (am 24), .ref (am 25), .ref (am 26), .ref (am 27), .ref (am 28), .ref (am 29), .int 0, .ref (am 31), .ref (am 32), .ref (am 33), .int 0, .ref (am 35), .int 0, .ref (am 37), .ref (am 38), .ref (am 39), .ref (am 40), .ref (am 41), .ref (am 42), .ref (am 43), .int 0, .ref (am 45), .ref (am 46), .ref (am 47), .int 0, .ref (am 49), .int 0, .ref (am 51), .int 0, .ref (am 53), .ref (am 54), .int 1, .int 0, .ref (am 57), .long 0, .ref (am 59), .ref (am 60), .long 0, .int 0, .int 0, .int 0, .int 0, .int 0, .int 0, .ref (am 68), .int 0, .int 0, .ref (am 71), .ref (am 72), .ref (am 73), .ref (am 74), .ref (am 75), .ref (am 76), .ref (am 77), .ref (am 78)])), (am 6, .inl (cs 6, 30, .inl (upd (fs 6) (0 : Int32).toNatClampNeg p0))), (am 7, .inl (cs 7, 30, .inl (fs 7))), (am 8, .inl (cs 8, 30, .inl (fs 8)))] H := hP
      have hD : va_D A [(h0, .inr (12, [.int 0, .int 0, .ref (am 2), .ref (am 3), .ref (am 4), .int 0, .ref (am 6), .ref (am 7), .ref (am 8), .int 0, .ref (am 10), .ref (am 11), .ref (am 12), .ref (am 13), .ref (am 14), .ref (am 15), .int 0, .ref (am 17), .ref (am 18), .ref (am 19), .ref (am 20), .int 0, .ref (am 22), .int 0, .ref (am 24), .ref (am 25), .ref (am 26), .ref (am 27), .ref (am 28), .ref (am 29), .int 0, .ref (am 31), .ref (am 32), .ref (am 33), .int 0, .ref (am 35), .int 0, .ref (am 37), .ref (am 38), .ref (am 39), .ref (am 40), .ref (am 41), .ref (am 42), .ref (am 43), .int 0, .ref (am 45), .ref (am 46), .ref (am 47), .int 0, .ref (am 49), .int 0, .ref (am 51), .int 0, .ref (am 53), .ref (am 54), .int 1, .int 0, .ref (am 57), .long 0, .ref (am 59), .ref (am 60), .long 0, .int 0, .int 0, .int 0, .int 0, .int 0, .int 0, .ref (am 68), .int 0, .int 0, .ref (am 71), .ref (am 72), .ref (am 73), .ref (am 74), .ref (am 75), .ref (am 76), .ref (am 77), .ref (am 78)])), (am 6, .inl (cs 6, 30, .inl (upd (fs 6) (0 : Int32).toNatClampNeg p0))), (am 7, .inl (cs 7, 30, .inl (fs 7))), (am 8, .inl (cs 8, 30, .inl (fs 8)))] := hD
      refine lv_aload_n hx hb dX12_fog_43 rfl (lv_at hl 0 rfl) ?_
      refine va_get (D := (dC, dI)) (ci := 12) (v := .ref (am 7)) (C := RX12) (T := TX12) (N := 79) hx hb hts (by decide +kernel) hown hK hP 0 rfl rfl 7 (by decide) (hts (.fieldLink RX12 22 "RedTentModel" "fogTo" "[I") (by decide +kernel)) (fun _ h9 => h9) rfl dX12_fog_44 ?_
      refine lv_aload_n hx hb dX12_fog_47 rfl (lv_at hl 0 rfl) ?_
      refine va_get (D := (dC, dI)) (ci := 12) (v := .int 0) (C := RX12) (T := TX12) (N := 79) hx hb hts (by decide +kernel) hown hK hP 0 rfl rfl 9 (by decide) (hts (.fieldLink RX12 214 "RedTentModel" "fogs" "I") (by decide +kernel)) (fun _ h9 => h9) rfl dX12_fog_48 ?_
      refine lv_iload_n hx hb dX12_fog_51 rfl (lv_at hl 2 rfl) ?_
      refine va_iast hx hb hK hP hD hS 2 1 rfl rfl (by unfold vp_in; decide) dX12_fog_52 (fun H locs hP hD hS => ?_)
      have hP : va_P (dC, dI) vwCl [(h0, .inr (12, [.int 0, .int 0, .ref (am 2), .ref (am 3), .ref (am 4), .int 0, .ref (am 6), .ref (am 7), .ref (am 8), .int 0, .ref (am 10), .ref (am 11), .ref (am 12), .ref (am 13), .ref (am 14), .ref (am 15), .int 0, .ref (am 17), .ref (am 18), .ref (am 19), .ref (am 20), .int 0, .ref (am 22), .int 0, .ref (am 24), .ref (am 25), .ref (am 26), .ref (am 27), .ref (am 28), .ref (am 29), .int 0, .ref (am 31), .ref (am 32), .ref (am 33), .int 0, .ref (am 35), .int 0, .ref (am 37), .ref (am 38), .ref (am 39), .ref (am 40), .ref (am 41), .ref (am 42), .ref (am 43), .int 0, .ref (am 45), .ref (am 46), .ref (am 47), .int 0, .ref (am 49), .int 0, .ref (am 51), .int 0, .ref (am 53), .ref (am 54), .int 1, .int 0, .ref (am 57), .long 0, .ref (am 59), .ref (am 60), .long 0, .int 0, .int 0, .int 0, .int 0, .int 0, .int 0, .ref (am 68), .int 0, .int 0, .ref (am 71), .ref (am 72), .ref (am 73), .ref (am 74), .ref (am 75), .ref (am 76), .ref (am 77), .ref (am 78)])), (am 6, .inl (cs 6, 30, .inl (upd (fs 6) (0 : Int32).toNatClampNeg p0))), (am 7, .inl (cs 7, 30, .inl (upd (fs 7) (0 : Int32).toNatClampNeg p1))), (am 8, .inl (cs 8, 30, .inl (fs 8)))] H := hP
      have hD : va_D A [(h0, .inr (12, [.int 0, .int 0, .ref (am 2), .ref (am 3), .ref (am 4), .int 0, .ref (am 6), .ref (am 7), .ref (am 8), .int 0, .ref (am 10), .ref (am 11), .ref (am 12), .ref (am 13), .ref (am 14), .ref (am 15), .int 0, .ref (am 17), .ref (am 18), .ref (am 19), .ref (am 20), .int 0, .ref (am 22), .int 0, .ref (am 24), .ref (am 25), .ref (am 26), .ref (am 27), .ref (am 28), .ref (am 29), .int 0, .ref (am 31), .ref (am 32), .ref (am 33), .int 0, .ref (am 35), .int 0, .ref (am 37), .ref (am 38), .ref (am 39), .ref (am 40), .ref (am 41), .ref (am 42), .ref (am 43), .int 0, .ref (am 45), .ref (am 46), .ref (am 47), .int 0, .ref (am 49), .int 0, .ref (am 51), .int 0, .ref (am 53), .ref (am 54), .int 1, .int 0, .ref (am 57), .long 0, .ref (am 59), .ref (am 60), .long 0, .int 0, .int 0, .int 0, .int 0, .int 0, .int 0, .ref (am 68), .int 0, .int 0, .ref (am 71), .ref (am 72), .ref (am 73), .ref (am 74), .ref (am 75), .ref (am 76), .ref (am 77), .ref (am 78)])), (am 6, .inl (cs 6, 30, .inl (upd (fs 6) (0 : Int32).toNatClampNeg p0))), (am 7, .inl (cs 7, 30, .inl (upd (fs 7) (0 : Int32).toNatClampNeg p1))), (am 8, .inl (cs 8, 30, .inl (fs 8)))] := hD
      refine lv_aload_n hx hb dX12_fog_53 rfl (lv_at hl 0 rfl) ?_
      refine va_get (D := (dC, dI)) (ci := 12) (v := .ref (am 8)) (C := RX12) (T := TX12) (N := 79) hx hb hts (by decide +kernel) hown hK hP 0 rfl rfl 8 (by decide) (hts (.fieldLink RX12 25 "RedTentModel" "fogIs" "[I") (by decide +kernel)) (fun _ h9 => h9) rfl dX12_fog_54 ?_
      refine lv_aload_n hx hb dX12_fog_57 rfl (lv_at hl 0 rfl) ?_
      refine va_get (D := (dC, dI)) (ci := 12) (v := .int 0) (C := RX12) (T := TX12) (N := 79) hx hb hts (by decide +kernel) hown hK hP 0 rfl rfl 9 (by decide) (hts (.fieldLink RX12 214 "RedTentModel" "fogs" "I") (by decide +kernel)) (fun _ h9 => h9) rfl dX12_fog_58 ?_
      refine lv_iload_n hx hb dX12_fog_61 rfl (lv_at hl 3 rfl) ?_
      refine va_iast hx hb hK hP hD hS 3 2 rfl rfl (by unfold vp_in; decide) dX12_fog_62 (fun H locs hP hD hS => ?_)
      have hP : va_P (dC, dI) vwCl [(h0, .inr (12, [.int 0, .int 0, .ref (am 2), .ref (am 3), .ref (am 4), .int 0, .ref (am 6), .ref (am 7), .ref (am 8), .int 0, .ref (am 10), .ref (am 11), .ref (am 12), .ref (am 13), .ref (am 14), .ref (am 15), .int 0, .ref (am 17), .ref (am 18), .ref (am 19), .ref (am 20), .int 0, .ref (am 22), .int 0, .ref (am 24), .ref (am 25), .ref (am 26), .ref (am 27), .ref (am 28), .ref (am 29), .int 0, .ref (am 31), .ref (am 32), .ref (am 33), .int 0, .ref (am 35), .int 0, .ref (am 37), .ref (am 38), .ref (am 39), .ref (am 40), .ref (am 41), .ref (am 42), .ref (am 43), .int 0, .ref (am 45), .ref (am 46), .ref (am 47), .int 0, .ref (am 49), .int 0, .ref (am 51), .int 0, .ref (am 53), .ref (am 54), .int 1, .int 0, .ref (am 57), .long 0, .ref (am 59), .ref (am 60), .long 0, .int 0, .int 0, .int 0, .int 0, .int 0, .int 0, .ref (am 68), .int 0, .int 0, .ref (am 71), .ref (am 72), .ref (am 73), .ref (am 74), .ref (am 75), .ref (am 76), .ref (am 77), .ref (am 78)])), (am 6, .inl (cs 6, 30, .inl (upd (fs 6) (0 : Int32).toNatClampNeg p0))), (am 7, .inl (cs 7, 30, .inl (upd (fs 7) (0 : Int32).toNatClampNeg p1))), (am 8, .inl (cs 8, 30, .inl (upd (fs 8) (0 : Int32).toNatClampNeg p2)))] H := hP
      have hD : va_D A [(h0, .inr (12, [.int 0, .int 0, .ref (am 2), .ref (am 3), .ref (am 4), .int 0, .ref (am 6), .ref (am 7), .ref (am 8), .int 0, .ref (am 10), .ref (am 11), .ref (am 12), .ref (am 13), .ref (am 14), .ref (am 15), .int 0, .ref (am 17), .ref (am 18), .ref (am 19), .ref (am 20), .int 0, .ref (am 22), .int 0, .ref (am 24), .ref (am 25), .ref (am 26), .ref (am 27), .ref (am 28), .ref (am 29), .int 0, .ref (am 31), .ref (am 32), .ref (am 33), .int 0, .ref (am 35), .int 0, .ref (am 37), .ref (am 38), .ref (am 39), .ref (am 40), .ref (am 41), .ref (am 42), .ref (am 43), .int 0, .ref (am 45), .ref (am 46), .ref (am 47), .int 0, .ref (am 49), .int 0, .ref (am 51), .int 0, .ref (am 53), .ref (am 54), .int 1, .int 0, .ref (am 57), .long 0, .ref (am 59), .ref (am 60), .long 0, .int 0, .int 0, .int 0, .int 0, .int 0, .int 0, .ref (am 68), .int 0, .int 0, .ref (am 71), .ref (am 72), .ref (am 73), .ref (am 74), .ref (am 75), .ref (am 76), .ref (am 77), .ref (am 78)])), (am 6, .inl (cs 6, 30, .inl (upd (fs 6) (0 : Int32).toNatClampNeg p0))), (am 7, .inl (cs 7, 30, .inl (upd (fs 7) (0 : Int32).toNatClampNeg p1))), (am 8, .inl (cs 8, 30, .inl (upd (fs 8) (0 : Int32).toNatClampNeg p2)))] := hD
      refine lv_aload_n hx hb dX12_fog_63 rfl (lv_at hl 0 rfl) ?_
      refine lv_dup hx hb dX12_fog_64 rfl ?_
      refine va_get (D := (dC, dI)) (ci := 12) (v := .int 0) (C := RX12) (T := TX12) (N := 79) hx hb hts (by decide +kernel) hown hK hP 0 rfl rfl 9 (by decide) (hts (.fieldLink RX12 214 "RedTentModel" "fogs" "I") (by decide +kernel)) (fun _ h9 => h9) rfl dX12_fog_65 ?_
      refine lv_iconst (v := 1) hx hb dX12_fog_68 (by decide) ?_
      refine lv_iadd hx hb dX12_fog_69 ?_
      refine lv_topi (fun y_5 ey_5 => ?_)
      obtain rfl : y_5 = 1 := ey_5.trans (by decide)
      refine va_put (D := (dC, dI)) (ci := 12) (v := .int 1) (ty := .int) (C := RX12) (T := TX12) (N := 79) hx hb hts (by decide +kernel) tyX12 tyX12_ok nmX12 hown hK hP hD hS 0 rfl rfl 9 (by decide) (hts (.fieldLink RX12 214 "RedTentModel" "fogs" "I") (by decide +kernel)) (fun _ h9 => h9) rfl (by decide +kernel) rfl rfl (Nat.le_of_ble_eq_true rfl) dX12_fog_70 (fun H locs hP hD hS => ?_)
      have hP : va_P (dC, dI) vwCl [(h0, .inr (12, [.int 0, .int 0, .ref (am 2), .ref (am 3), .ref (am 4), .int 0, .ref (am 6), .ref (am 7), .ref (am 8), .int 1, .ref (am 10), .ref (am 11), .ref (am 12), .ref (am 13), .ref (am 14), .ref (am 15), .int 0, .ref (am 17), .ref (am 18), .ref (am 19), .ref (am 20), .int 0, .ref (am 22), .int 0, .ref (am 24), .ref (am 25), .ref (am 26), .ref (am 27), .ref (am 28), .ref (am 29), .int 0, .ref (am 31), .ref (am 32), .ref (am 33), .int 0, .ref (am 35), .int 0, .ref (am 37), .ref (am 38), .ref (am 39), .ref (am 40), .ref (am 41), .ref (am 42), .ref (am 43), .int 0, .ref (am 45), .ref (am 46), .ref (am 47), .int 0, .ref (am 49), .int 0, .ref (am 51), .int 0, .ref (am 53), .ref (am 54), .int 1, .int 0, .ref (am 57), .long 0, .ref (am 59), .ref (am 60), .long 0, .int 0, .int 0, .int 0, .int 0, .int 0, .int 0, .ref (am 68), .int 0, .int 0, .ref (am 71), .ref (am 72), .ref (am 73), .ref (am 74), .ref (am 75), .ref (am 76), .ref (am 77), .ref (am 78)])), (am 6, .inl (cs 6, 30, .inl (upd (fs 6) (0 : Int32).toNatClampNeg p0))), (am 7, .inl (cs 7, 30, .inl (upd (fs 7) (0 : Int32).toNatClampNeg p1))), (am 8, .inl (cs 8, 30, .inl (upd (fs 8) (0 : Int32).toNatClampNeg p2)))] H := hP
      have hD : va_D A [(h0, .inr (12, [.int 0, .int 0, .ref (am 2), .ref (am 3), .ref (am 4), .int 0, .ref (am 6), .ref (am 7), .ref (am 8), .int 1, .ref (am 10), .ref (am 11), .ref (am 12), .ref (am 13), .ref (am 14), .ref (am 15), .int 0, .ref (am 17), .ref (am 18), .ref (am 19), .ref (am 20), .int 0, .ref (am 22), .int 0, .ref (am 24), .ref (am 25), .ref (am 26), .ref (am 27), .ref (am 28), .ref (am 29), .int 0, .ref (am 31), .ref (am 32), .ref (am 33), .int 0, .ref (am 35), .int 0, .ref (am 37), .ref (am 38), .ref (am 39), .ref (am 40), .ref (am 41), .ref (am 42), .ref (am 43), .int 0, .ref (am 45), .ref (am 46), .ref (am 47), .int 0, .ref (am 49), .int 0, .ref (am 51), .int 0, .ref (am 53), .ref (am 54), .int 1, .int 0, .ref (am 57), .long 0, .ref (am 59), .ref (am 60), .long 0, .int 0, .int 0, .int 0, .int 0, .int 0, .int 0, .ref (am 68), .int 0, .int 0, .ref (am 71), .ref (am 72), .ref (am 73), .ref (am 74), .ref (am 75), .ref (am 76), .ref (am 77), .ref (am 78)])), (am 6, .inl (cs 6, 30, .inl (upd (fs 6) (0 : Int32).toNatClampNeg p0))), (am 7, .inl (cs 7, 30, .inl (upd (fs 7) (0 : Int32).toNatClampNeg p1))), (am 8, .inl (cs 8, 30, .inl (upd (fs 8) (0 : Int32).toNatClampNeg p2)))] := hD
      refine lv_aload_n hx hb dX12_fog_73 rfl (lv_at hl 0 rfl) ?_
      refine va_get (D := (dC, dI)) (ci := 12) (v := .int 1) (C := RX12) (T := TX12) (N := 79) hx hb hts (by decide +kernel) hown hK hP 0 rfl rfl 9 (by decide) (hts (.fieldLink RX12 214 "RedTentModel" "fogs" "I") (by decide +kernel)) (fun _ h9 => h9) rfl dX12_fog_74 ?_
      have hpost : ((0 ≤ p0 ∧ p0 < p1 ∧ p1 ≤ 240 ∧ 0 ≤ p2 ∧ p2 ≤ 16) ∧ (1 : Int32) = 1) ∨ ((¬ (0 ≤ p0 ∧ p0 < p1 ∧ p1 ≤ 240 ∧ 0 ≤ p2 ∧ p2 ≤ 16)) ∧ (1 : Int32) = (-2)) := by
        try simp only [fa_lt, fa_le, fa_eq, fa_lt64, fa_le64, fa_eq64, Int32.reduceToInt, Int64.reduceToInt, zi_ite] at b_2
        try simp only [fa_lt, fa_le, fa_eq, fa_lt64, fa_le64, fa_eq64, Int32.reduceToInt, Int64.reduceToInt, zi_ite] at b_4
        first
        | exact Or.inl ⟨by (try simp only [fa_lt, fa_le, fa_eq, fa_lt64, fa_le64, fa_eq64, Int32.reduceToInt, Int64.reduceToInt, zi_ite]); omega, rfl⟩
        | exact Or.inr (⟨by (try simp only [fa_lt, fa_le, fa_eq, fa_lt64, fa_le64, fa_eq64, Int32.reduceToInt, Int64.reduceToInt, zi_ite]); omega, rfl⟩)
      refine W.widen (k := 0) (n := 0) (by decide +kernel) (by decide +kernel) ?_
      exact W.iret (v := 1) hx hb hr (fun t ht hW => ⟨⟨1, (), rfl, hpost, trivial⟩, hS.F ht⟩) hS.2.2 dX12_fog_77
    · refine lv_if_ne (tgt := 21) hx hb dX12_fog_15 (by decide) (fun c9 => absurd (by decide) c9) (fun _ => ?_)
      refine lv_bipush (v := (-2)) hx hb dX12_fog_18 (by decide) ?_
      have hpost : ((0 ≤ p0 ∧ p0 < p1 ∧ p1 ≤ 240 ∧ 0 ≤ p2 ∧ p2 ≤ 16) ∧ ((-2) : Int32) = 1) ∨ ((¬ (0 ≤ p0 ∧ p0 < p1 ∧ p1 ≤ 240 ∧ 0 ≤ p2 ∧ p2 ≤ 16)) ∧ ((-2) : Int32) = (-2)) := by
        try simp only [fa_lt, fa_le, fa_eq, fa_lt64, fa_le64, fa_eq64, Int32.reduceToInt, Int64.reduceToInt, zi_ite] at b_2
        try simp only [fa_lt, fa_le, fa_eq, fa_lt64, fa_le64, fa_eq64, Int32.reduceToInt, Int64.reduceToInt, zi_ite] at b_4
        first
        | exact Or.inl ⟨by (try simp only [fa_lt, fa_le, fa_eq, fa_lt64, fa_le64, fa_eq64, Int32.reduceToInt, Int64.reduceToInt, zi_ite]); omega, rfl⟩
        | exact Or.inr (⟨by (try simp only [fa_lt, fa_le, fa_eq, fa_lt64, fa_le64, fa_eq64, Int32.reduceToInt, Int64.reduceToInt, zi_ite]); omega, rfl⟩)
      refine W.widen (k := 0) (n := 0) (by decide +kernel) (by decide +kernel) ?_
      exact W.iret (v := (-2)) hx hb hr (fun t ht hW => ⟨⟨(-2), (), rfl, hpost, trivial⟩, hS.F ht⟩) hS.2.2 dX12_fog_20
  · refine lv_if_eq (tgt := 18) hx hb dX12_fog_5 (by decide) (fun _ => ?_) (fun c9 => absurd (by decide) c9)
    refine lv_bipush (v := (-2)) hx hb dX12_fog_18 (by decide) ?_
    have hpost : ((0 ≤ p0 ∧ p0 < p1 ∧ p1 ≤ 240 ∧ 0 ≤ p2 ∧ p2 ≤ 16) ∧ ((-2) : Int32) = 1) ∨ ((¬ (0 ≤ p0 ∧ p0 < p1 ∧ p1 ≤ 240 ∧ 0 ≤ p2 ∧ p2 ≤ 16)) ∧ ((-2) : Int32) = (-2)) := by
      try simp only [fa_lt, fa_le, fa_eq, fa_lt64, fa_le64, fa_eq64, Int32.reduceToInt, Int64.reduceToInt, zi_ite] at b_2
      first
      | exact Or.inl ⟨by (try simp only [fa_lt, fa_le, fa_eq, fa_lt64, fa_le64, fa_eq64, Int32.reduceToInt, Int64.reduceToInt, zi_ite]); omega, rfl⟩
      | exact Or.inr (⟨by (try simp only [fa_lt, fa_le, fa_eq, fa_lt64, fa_le64, fa_eq64, Int32.reduceToInt, Int64.reduceToInt, zi_ite]); omega, rfl⟩)
    refine W.widen (k := 0) (n := 0) (by decide +kernel) (by decide +kernel) ?_
    exact W.iret (v := (-2)) hx hb hr (fun t ht hW => ⟨⟨(-2), (), rfl, hpost, trivial⟩, hS.F ht⟩) hS.2.2 dX12_fog_20
set_option maxHeartbeats 1000000 in
set_option maxRecDepth 100000 in
theorem rt_X12_body (l : Launch) (dC : Nat → ClassId) (dI : Nat → Nat → Nat) (sz : Nat) (h0 : Nat) (am : Nat → Nat) (cs : Nat → ClassId) (fs : Nat → Nat → Int32) (p0 p1 p2 p3 p4 : Int32) : Met l yX12_body wsX12_body ({ frames := 2, cells := 0, slots := 0, locals := 42 }) (va_Pc [.ref h0, .int p0, .int p1, .int p2, .int p3, .int p4] (fun U => U.heap.size = sz ∧ va_P (dC, dI) vwCl [(h0, .inr (12, [.int 0, .int 0, .ref (am 2), .ref (am 3), .ref (am 4), .int 0, .ref (am 6), .ref (am 7), .ref (am 8), .int 0, .ref (am 10), .ref (am 11), .ref (am 12), .ref (am 13), .ref (am 14), .ref (am 15), .int 0, .ref (am 17), .ref (am 18), .ref (am 19), .ref (am 20), .int 0, .ref (am 22), .int 0, .ref (am 24), .ref (am 25), .ref (am 26), .ref (am 27), .ref (am 28), .ref (am 29), .int 0, .ref (am 31), .ref (am 32), .ref (am 33), .int 0, .ref (am 35), .int 0, .ref (am 37), .ref (am 38), .ref (am 39), .ref (am 40), .ref (am 41), .ref (am 42), .ref (am 43), .int 0, .ref (am 45), .ref (am 46), .ref (am 47), .int 0, .ref (am 49), .int 0, .ref (am 51), .int 0, .ref (am 53), .ref (am 54), .int 1, .int 0, .ref (am 57), .long 0, .ref (am 59), .ref (am 60), .long 0, .int 0, .int 0, .int 0, .int 0, .int 0, .int 0, .ref (am 68), .int 0, .int 0, .ref (am 71), .ref (am 72), .ref (am 73), .ref (am 74), .ref (am 75), .ref (am 76), .ref (am 77), .ref (am 78)])), (am 10, .inl (cs 10, 12, .inl (fs 10))), (am 11, .inl (cs 11, 12, .inl (fs 11))), (am 12, .inl (cs 12, 12, .inl (fs 12))), (am 13, .inl (cs 13, 12, .inl (fs 13))), (am 14, .inl (cs 14, 12, .inl (fs 14))), (am 15, .inl (cs 15, 12, .inl (fs 15)))] U.heap ∧ va_K (dC, dI) vwCl [(cs 10, .int), (cs 11, .int), (cs 12, .int), (cs 13, .int), (cs 14, .int), (cs 15, .int)] U ∧ va_D (fun _ => True) [(h0, .inr (12, [.int 0, .int 0, .ref (am 2), .ref (am 3), .ref (am 4), .int 0, .ref (am 6), .ref (am 7), .ref (am 8), .int 0, .ref (am 10), .ref (am 11), .ref (am 12), .ref (am 13), .ref (am 14), .ref (am 15), .int 0, .ref (am 17), .ref (am 18), .ref (am 19), .ref (am 20), .int 0, .ref (am 22), .int 0, .ref (am 24), .ref (am 25), .ref (am 26), .ref (am 27), .ref (am 28), .ref (am 29), .int 0, .ref (am 31), .ref (am 32), .ref (am 33), .int 0, .ref (am 35), .int 0, .ref (am 37), .ref (am 38), .ref (am 39), .ref (am 40), .ref (am 41), .ref (am 42), .ref (am 43), .int 0, .ref (am 45), .ref (am 46), .ref (am 47), .int 0, .ref (am 49), .int 0, .ref (am 51), .int 0, .ref (am 53), .ref (am 54), .int 1, .int 0, .ref (am 57), .long 0, .ref (am 59), .ref (am 60), .long 0, .int 0, .int 0, .int 0, .int 0, .int 0, .int 0, .ref (am 68), .int 0, .int 0, .ref (am 71), .ref (am 72), .ref (am 73), .ref (am 74), .ref (am 75), .ref (am 76), .ref (am 77), .ref (am 78)])), (am 10, .inl (cs 10, 12, .inl (fs 10))), (am 11, .inl (cs 11, 12, .inl (fs 11))), (am 12, .inl (cs 12, 12, .inl (fs 12))), (am 13, .inl (cs 13, 12, .inl (fs 13))), (am 14, .inl (cs 14, 12, .inl (fs 14))), (am 15, .inl (cs 15, 12, .inl (fs 15)))])) (va_Qi (fun (r : Int32) (u : Unit) => match u with | () => ((0 ≤ p0 ∧ p0 ≤ 5 ∧ 0 ≤ p1 ∧ p1 ≤ 63 ∧ 0 ≤ p2 ∧ p2 ≤ 20 ∧ 0 ≤ p3 ∧ p3 ≤ 9999 ∧ 0 ≤ p4 ∧ p4 ≤ 999) ∧ r = 0) ∨ ((¬ (0 ≤ p0 ∧ p0 ≤ 5 ∧ 0 ≤ p1 ∧ p1 ≤ 63 ∧ 0 ≤ p2 ∧ p2 ≤ 20 ∧ 0 ≤ p3 ∧ p3 ≤ 9999 ∧ 0 ≤ p4 ∧ p4 ≤ 999)) ∧ r = (-2))) (fun (u : Unit) (t : State) => match u with | () => True) (va_A [(h0, .inr (12, [.int 0, .int 0, .ref (am 2), .ref (am 3), .ref (am 4), .int 0, .ref (am 6), .ref (am 7), .ref (am 8), .int 0, .ref (am 10), .ref (am 11), .ref (am 12), .ref (am 13), .ref (am 14), .ref (am 15), .int 0, .ref (am 17), .ref (am 18), .ref (am 19), .ref (am 20), .int 0, .ref (am 22), .int 0, .ref (am 24), .ref (am 25), .ref (am 26), .ref (am 27), .ref (am 28), .ref (am 29), .int 0, .ref (am 31), .ref (am 32), .ref (am 33), .int 0, .ref (am 35), .int 0, .ref (am 37), .ref (am 38), .ref (am 39), .ref (am 40), .ref (am 41), .ref (am 42), .ref (am 43), .int 0, .ref (am 45), .ref (am 46), .ref (am 47), .int 0, .ref (am 49), .int 0, .ref (am 51), .int 0, .ref (am 53), .ref (am 54), .int 1, .int 0, .ref (am 57), .long 0, .ref (am 59), .ref (am 60), .long 0, .int 0, .int 0, .int 0, .int 0, .int 0, .int 0, .ref (am 68), .int 0, .int 0, .ref (am 71), .ref (am 72), .ref (am 73), .ref (am 74), .ref (am 75), .ref (am 76), .ref (am 77), .ref (am 78)])), (am 10, .inl (cs 10, 12, .inl (fs 10))), (am 11, .inl (cs 11, 12, .inl (fs 11))), (am 12, .inl (cs 12, 12, .inl (fs 12))), (am 13, .inl (cs 13, 12, .inl (fs 13))), (am 14, .inl (cs 14, 12, .inl (fs 14))), (am 15, .inl (cs 15, 12, .inl (fs 15)))] sz)) 0 0 (va_A [(h0, .inr (12, [.int 0, .int 0, .ref (am 2), .ref (am 3), .ref (am 4), .int 0, .ref (am 6), .ref (am 7), .ref (am 8), .int 0, .ref (am 10), .ref (am 11), .ref (am 12), .ref (am 13), .ref (am 14), .ref (am 15), .int 0, .ref (am 17), .ref (am 18), .ref (am 19), .ref (am 20), .int 0, .ref (am 22), .int 0, .ref (am 24), .ref (am 25), .ref (am 26), .ref (am 27), .ref (am 28), .ref (am 29), .int 0, .ref (am 31), .ref (am 32), .ref (am 33), .int 0, .ref (am 35), .int 0, .ref (am 37), .ref (am 38), .ref (am 39), .ref (am 40), .ref (am 41), .ref (am 42), .ref (am 43), .int 0, .ref (am 45), .ref (am 46), .ref (am 47), .int 0, .ref (am 49), .int 0, .ref (am 51), .int 0, .ref (am 53), .ref (am 54), .int 1, .int 0, .ref (am 57), .long 0, .ref (am 59), .ref (am 60), .long 0, .int 0, .int 0, .int 0, .int 0, .int 0, .int 0, .ref (am 68), .int 0, .int 0, .ref (am 71), .ref (am 72), .ref (am 73), .ref (am 74), .ref (am 75), .ref (am 76), .ref (am 77), .ref (am 78)])), (am 10, .inl (cs 10, 12, .inl (fs 10))), (am 11, .inl (cs 11, 12, .inl (fs 11))), (am 12, .inl (cs 12, 12, .inl (fs 12))), (am 13, .inl (cs 13, 12, .inl (fs 13))), (am 14, .inl (cs 14, 12, .inl (fs 14))), (am 15, .inl (cs 15, 12, .inl (fs 15)))] sz) := by
  refine Met.ofW (cc := cX12_body) (maxL := 6) (ret := (some .int)) (by decide) rfl ?_
  intro p e s m args below meth c s₁ B hml hv
  obtain ⟨rfl, hsz, hP, hK, hD0⟩ := hv
  have hx := B.exec
  have hb := B.bytes
  have hr := B.returns
  have hts := atoms_spec (ws := wsX12_body) B.pre
  have hown : s.vm.findClass RX12 = some m.cls := findClass_of_methodNamed B.named
  have hlocks := B.notSynchronized
  subst hsz
  have hD := hD0.self (sz := s.heap.size)
  generalize hAe : va_A [(h0, .inr (12, [.int 0, .int 0, .ref (am 2), .ref (am 3), .ref (am 4), .int 0, .ref (am 6), .ref (am 7), .ref (am 8), .int 0, .ref (am 10), .ref (am 11), .ref (am 12), .ref (am 13), .ref (am 14), .ref (am 15), .int 0, .ref (am 17), .ref (am 18), .ref (am 19), .ref (am 20), .int 0, .ref (am 22), .int 0, .ref (am 24), .ref (am 25), .ref (am 26), .ref (am 27), .ref (am 28), .ref (am 29), .int 0, .ref (am 31), .ref (am 32), .ref (am 33), .int 0, .ref (am 35), .int 0, .ref (am 37), .ref (am 38), .ref (am 39), .ref (am 40), .ref (am 41), .ref (am 42), .ref (am 43), .int 0, .ref (am 45), .ref (am 46), .ref (am 47), .int 0, .ref (am 49), .int 0, .ref (am 51), .int 0, .ref (am 53), .ref (am 54), .int 1, .int 0, .ref (am 57), .long 0, .ref (am 59), .ref (am 60), .long 0, .int 0, .int 0, .int 0, .int 0, .int 0, .int 0, .ref (am 68), .int 0, .int 0, .ref (am 71), .ref (am 72), .ref (am 73), .ref (am 74), .ref (am 75), .ref (am 76), .ref (am 77), .ref (am 78)])), (am 10, .inl (cs 10, 12, .inl (fs 10))), (am 11, .inl (cs 11, 12, .inl (fs 11))), (am 12, .inl (cs 12, 12, .inl (fs 12))), (am 13, .inl (cs 13, 12, .inl (fs 13))), (am 14, .inl (cs 14, 12, .inl (fs 14))), (am 15, .inl (cs 15, 12, .inl (fs 15)))] s.heap.size = A at hD  ⊢
  have hA : ∀ q : Nat, s.heap.size ≤ q → A q := fun q h => by rw [← hAe]; exact Or.inr h
  have hS : va_S A s.heap s.heap [] := va_S.rf
  have hl := lv_entry ([.ref h0, .int p0, .int p1, .int p2, .int p3, .int p4]) (n := 6) (Nat.le_of_ble_eq_true rfl)
  rw [lg_entry_eq]
  generalize (lg_sl ([.ref h0, .int p0, .int p1, .int p2, .int p3, .int p4]) ++ List.replicate (6 - (lg_sl ([.ref h0, .int p0, .int p1, .int p2, .int p3, .int p4])).length) Slot.unset).toArray = ls at hl ⊢
  have hl : lv_has ls 6 [(0, .ref h0), (1, .int p0), (2, .int p1), (3, .int p2), (4, .int p3), (5, .int p4)] := hl
  refine lv_iload_n hx hb dX12_body_0 rfl (lv_at hl 1 rfl) ?_
  refine lv_iconst (v := 0) hx hb dX12_body_1 (by decide) ?_
  refine lv_iconst (v := 5) hx hb dX12_body_2 (by decide) ?_
  refine vp_callSi (va_Run.run (va_runS (As := [.int p0, .int 0, .int 5]) (rest := []) ⟨hx, hb, hml, hown, hts⟩ (rt_X12_within l p0 0 5) (va_cwS 3 hts gX12_body_X12_within rfl rfl rfl (by decide +kernel) ⟨Nat.le_of_ble_eq_true rfl, Nat.le_of_ble_eq_true rfl⟩) ⟨fun a U g mk q => q, fun U hU hW => ⟨rfl, trivial⟩⟩ rfl rfl hl.1 rfl (lv_room (Nat.le_of_ble_eq_true rfl)) dX12_body_3 ⟨by decide +kernel, by decide +kernel⟩)) (fun r_1 hr_1 => ?_)
  rcases hr_1 with ⟨b_2, rfl⟩ | ⟨b_2, rfl⟩
  · refine lv_if_eq (tgt := 50) hx hb dX12_body_6 (by decide) (fun c9 => absurd c9 (by decide)) (fun _ => ?_)
    refine lv_iload_n hx hb dX12_body_9 rfl (lv_at hl 2 rfl) ?_
    refine vp_callSi (va_Run.run (va_runS (As := [.int p1]) (rest := []) ⟨hx, hb, hml, hown, hts⟩ (rt_X12_isCell l p1) (va_cwS 1 hts gX12_body_X12_isCell rfl rfl rfl (by decide +kernel) ⟨Nat.le_of_ble_eq_true rfl, Nat.le_of_ble_eq_true rfl⟩) ⟨fun a U g mk q => q, fun U hU hW => ⟨rfl, trivial⟩⟩ rfl rfl hl.1 rfl (lv_room (Nat.le_of_ble_eq_true rfl)) dX12_body_10 ⟨by decide +kernel, by decide +kernel⟩)) (fun r_3 hr_3 => ?_)
    rcases hr_3 with ⟨b_4, rfl⟩ | ⟨b_4, rfl⟩
    · refine lv_if_eq (tgt := 50) hx hb dX12_body_13 (by decide) (fun c9 => absurd c9 (by decide)) (fun _ => ?_)
      refine lv_iload_n hx hb dX12_body_16 rfl (lv_at hl 3 rfl) ?_
      refine lv_iconst (v := 0) hx hb dX12_body_17 (by decide) ?_
      refine lv_bipush (v := 20) hx hb dX12_body_18 (by decide) ?_
      refine vp_callSi (va_Run.run (va_runS (As := [.int p2, .int 0, .int 20]) (rest := []) ⟨hx, hb, hml, hown, hts⟩ (rt_X12_within l p2 0 20) (va_cwS 3 hts gX12_body_X12_within rfl rfl rfl (by decide +kernel) ⟨Nat.le_of_ble_eq_true rfl, Nat.le_of_ble_eq_true rfl⟩) ⟨fun a U g mk q => q, fun U hU hW => ⟨rfl, trivial⟩⟩ rfl rfl hl.1 rfl (lv_room (Nat.le_of_ble_eq_true rfl)) dX12_body_20 ⟨by decide +kernel, by decide +kernel⟩)) (fun r_5 hr_5 => ?_)
      rcases hr_5 with ⟨b_6, rfl⟩ | ⟨b_6, rfl⟩
      · refine lv_if_eq (tgt := 50) hx hb dX12_body_23 (by decide) (fun c9 => absurd c9 (by decide)) (fun _ => ?_)
        refine lv_iload hx hb dX12_body_26 (lv_at hl 4 rfl) ?_
        refine lv_iconst (v := 0) hx hb dX12_body_28 (by decide) ?_
        refine lv_sipush (v := 9999) hx hb dX12_body_29 (by decide) ?_
        refine vp_callSi (va_Run.run (va_runS (As := [.int p3, .int 0, .int 9999]) (rest := []) ⟨hx, hb, hml, hown, hts⟩ (rt_X12_within l p3 0 9999) (va_cwS 3 hts gX12_body_X12_within rfl rfl rfl (by decide +kernel) ⟨Nat.le_of_ble_eq_true rfl, Nat.le_of_ble_eq_true rfl⟩) ⟨fun a U g mk q => q, fun U hU hW => ⟨rfl, trivial⟩⟩ rfl rfl hl.1 rfl (lv_room (Nat.le_of_ble_eq_true rfl)) dX12_body_32 ⟨by decide +kernel, by decide +kernel⟩)) (fun r_7 hr_7 => ?_)
        rcases hr_7 with ⟨b_8, rfl⟩ | ⟨b_8, rfl⟩
        · refine lv_if_eq (tgt := 50) hx hb dX12_body_35 (by decide) (fun c9 => absurd c9 (by decide)) (fun _ => ?_)
          refine lv_iload hx hb dX12_body_38 (lv_at hl 5 rfl) ?_
          refine lv_iconst (v := 0) hx hb dX12_body_40 (by decide) ?_
          refine lv_sipush (v := 999) hx hb dX12_body_41 (by decide) ?_
          refine vp_callSi (va_Run.run (va_runS (As := [.int p4, .int 0, .int 999]) (rest := []) ⟨hx, hb, hml, hown, hts⟩ (rt_X12_within l p4 0 999) (va_cwS 3 hts gX12_body_X12_within rfl rfl rfl (by decide +kernel) ⟨Nat.le_of_ble_eq_true rfl, Nat.le_of_ble_eq_true rfl⟩) ⟨fun a U g mk q => q, fun U hU hW => ⟨rfl, trivial⟩⟩ rfl rfl hl.1 rfl (lv_room (Nat.le_of_ble_eq_true rfl)) dX12_body_44 ⟨by decide +kernel, by decide +kernel⟩)) (fun r_9 hr_9 => ?_)
          rcases hr_9 with ⟨b_10, rfl⟩ | ⟨b_10, rfl⟩
          · refine lv_if_ne (tgt := 53) hx hb dX12_body_47 (by decide) (fun _ => ?_) (fun c9 => absurd c9 (by decide))
            refine lv_aload_n hx hb dX12_body_53 rfl (lv_at hl 0 rfl) ?_
            refine va_get (D := (dC, dI)) (ci := 12) (v := .int 0) (C := RX12) (T := TX12) (N := 79) hx hb hts (by decide +kernel) hown hK hP 0 rfl rfl 16 (by decide) (hts (.fieldLink RX12 190 "RedTentModel" "bodies" "I") (by decide +kernel)) (fun _ h9 => h9) rfl dX12_body_54 ?_
            refine lv_bipush (v := 12) hx hb dX12_body_57 (by decide) ?_
            refine lv_icmp_ne (tgt := 65) hx hb dX12_body_59 (by decide) (fun _ => ?_) (fun c9 => absurd c9 (by decide))
            refine lv_aload_n hx hb dX12_body_65 rfl (lv_at hl 0 rfl) ?_
            refine va_get (D := (dC, dI)) (ci := 12) (v := .ref (am 10)) (C := RX12) (T := TX12) (N := 79) hx hb hts (by decide +kernel) hown hK hP 0 rfl rfl 10 (by decide) (hts (.fieldLink RX12 28 "RedTentModel" "kind" "[I") (by decide +kernel)) (fun _ h9 => h9) rfl dX12_body_66 ?_
            refine lv_aload_n hx hb dX12_body_69 rfl (lv_at hl 0 rfl) ?_
            refine va_get (D := (dC, dI)) (ci := 12) (v := .int 0) (C := RX12) (T := TX12) (N := 79) hx hb hts (by decide +kernel) hown hK hP 0 rfl rfl 16 (by decide) (hts (.fieldLink RX12 190 "RedTentModel" "bodies" "I") (by decide +kernel)) (fun _ h9 => h9) rfl dX12_body_70 ?_
            refine lv_iload_n hx hb dX12_body_73 rfl (lv_at hl 1 rfl) ?_
            refine va_iast hx hb hK hP hD hS 1 0 rfl rfl (by unfold vp_in; decide) dX12_body_74 (fun H locs hP hD hS => ?_)
            have hP : va_P (dC, dI) vwCl [(h0, .inr (12, [.int 0, .int 0, .ref (am 2), .ref (am 3), .ref (am 4), .int 0, .ref (am 6), .ref (am 7), .ref (am 8), .int 0, .ref (am 10), .ref (am 11), .ref (am 12), .ref (am 13), .ref (am 14), .ref (am 15), .int 0, .ref (am 17), .ref (am 18), .ref (am 19), .ref (am 20), .int 0, .ref (am 22), .int 0, .ref (am 24), .ref (am 25), .ref (am 26), .ref (am 27), .ref (am 28), .ref (am 29), .int 0, .ref (am 31), .ref (am 32), .ref (am 33), .int 0, .ref (am 35), .int 0, .ref (am 37), .ref (am 38), .ref (am 39), .ref (am 40), .ref (am 41), .ref (am 42), .ref (am 43), .int 0, .ref (am 45), .ref (am 46), .ref (am 47), .int 0, .ref (am 49), .int 0, .ref (am 51), .int 0, .ref (am 53), .ref (am 54), .int 1, .int 0, .ref (am 57), .long 0, .ref (am 59), .ref (am 60), .long 0, .int 0, .int 0, .int 0, .int 0, .int 0, .int 0, .ref (am 68), .int 0, .int 0, .ref (am 71), .ref (am 72), .ref (am 73), .ref (am 74), .ref (am 75), .ref (am 76), .ref (am 77), .ref (am 78)])), (am 10, .inl (cs 10, 12, .inl (upd (fs 10) (0 : Int32).toNatClampNeg p0))), (am 11, .inl (cs 11, 12, .inl (fs 11))), (am 12, .inl (cs 12, 12, .inl (fs 12))), (am 13, .inl (cs 13, 12, .inl (fs 13))), (am 14, .inl (cs 14, 12, .inl (fs 14))), (am 15, .inl (cs 15, 12, .inl (fs 15)))] H := hP
            have hD : va_D A [(h0, .inr (12, [.int 0, .int 0, .ref (am 2), .ref (am 3), .ref (am 4), .int 0, .ref (am 6), .ref (am 7), .ref (am 8), .int 0, .ref (am 10), .ref (am 11), .ref (am 12), .ref (am 13), .ref (am 14), .ref (am 15), .int 0, .ref (am 17), .ref (am 18), .ref (am 19), .ref (am 20), .int 0, .ref (am 22), .int 0, .ref (am 24), .ref (am 25), .ref (am 26), .ref (am 27), .ref (am 28), .ref (am 29), .int 0, .ref (am 31), .ref (am 32), .ref (am 33), .int 0, .ref (am 35), .int 0, .ref (am 37), .ref (am 38), .ref (am 39), .ref (am 40), .ref (am 41), .ref (am 42), .ref (am 43), .int 0, .ref (am 45), .ref (am 46), .ref (am 47), .int 0, .ref (am 49), .int 0, .ref (am 51), .int 0, .ref (am 53), .ref (am 54), .int 1, .int 0, .ref (am 57), .long 0, .ref (am 59), .ref (am 60), .long 0, .int 0, .int 0, .int 0, .int 0, .int 0, .int 0, .ref (am 68), .int 0, .int 0, .ref (am 71), .ref (am 72), .ref (am 73), .ref (am 74), .ref (am 75), .ref (am 76), .ref (am 77), .ref (am 78)])), (am 10, .inl (cs 10, 12, .inl (upd (fs 10) (0 : Int32).toNatClampNeg p0))), (am 11, .inl (cs 11, 12, .inl (fs 11))), (am 12, .inl (cs 12, 12, .inl (fs 12))), (am 13, .inl (cs 13, 12, .inl (fs 13))), (am 14, .inl (cs 14, 12, .inl (fs 14))), (am 15, .inl (cs 15, 12, .inl (fs 15)))] := hD
            refine lv_aload_n hx hb dX12_body_75 rfl (lv_at hl 0 rfl) ?_
            refine va_get (D := (dC, dI)) (ci := 12) (v := .ref (am 12)) (C := RX12) (T := TX12) (N := 79) hx hb hts (by decide +kernel) hown hK hP 0 rfl rfl 12 (by decide) (hts (.fieldLink RX12 34 "RedTentModel" "cellOf" "[I") (by decide +kernel)) (fun _ h9 => h9) rfl dX12_body_76 ?_
            refine lv_aload_n hx hb dX12_body_79 rfl (lv_at hl 0 rfl) ?_
            refine va_get (D := (dC, dI)) (ci := 12) (v := .int 0) (C := RX12) (T := TX12) (N := 79) hx hb hts (by decide +kernel) hown hK hP 0 rfl rfl 16 (by decide) (hts (.fieldLink RX12 190 "RedTentModel" "bodies" "I") (by decide +kernel)) (fun _ h9 => h9) rfl dX12_body_80 ?_
            refine lv_iload_n hx hb dX12_body_83 rfl (lv_at hl 2 rfl) ?_
            refine va_iast hx hb hK hP hD hS 3 2 rfl rfl (by unfold vp_in; decide) dX12_body_84 (fun H locs hP hD hS => ?_)
            have hP : va_P (dC, dI) vwCl [(h0, .inr (12, [.int 0, .int 0, .ref (am 2), .ref (am 3), .ref (am 4), .int 0, .ref (am 6), .ref (am 7), .ref (am 8), .int 0, .ref (am 10), .ref (am 11), .ref (am 12), .ref (am 13), .ref (am 14), .ref (am 15), .int 0, .ref (am 17), .ref (am 18), .ref (am 19), .ref (am 20), .int 0, .ref (am 22), .int 0, .ref (am 24), .ref (am 25), .ref (am 26), .ref (am 27), .ref (am 28), .ref (am 29), .int 0, .ref (am 31), .ref (am 32), .ref (am 33), .int 0, .ref (am 35), .int 0, .ref (am 37), .ref (am 38), .ref (am 39), .ref (am 40), .ref (am 41), .ref (am 42), .ref (am 43), .int 0, .ref (am 45), .ref (am 46), .ref (am 47), .int 0, .ref (am 49), .int 0, .ref (am 51), .int 0, .ref (am 53), .ref (am 54), .int 1, .int 0, .ref (am 57), .long 0, .ref (am 59), .ref (am 60), .long 0, .int 0, .int 0, .int 0, .int 0, .int 0, .int 0, .ref (am 68), .int 0, .int 0, .ref (am 71), .ref (am 72), .ref (am 73), .ref (am 74), .ref (am 75), .ref (am 76), .ref (am 77), .ref (am 78)])), (am 10, .inl (cs 10, 12, .inl (upd (fs 10) (0 : Int32).toNatClampNeg p0))), (am 11, .inl (cs 11, 12, .inl (fs 11))), (am 12, .inl (cs 12, 12, .inl (upd (fs 12) (0 : Int32).toNatClampNeg p1))), (am 13, .inl (cs 13, 12, .inl (fs 13))), (am 14, .inl (cs 14, 12, .inl (fs 14))), (am 15, .inl (cs 15, 12, .inl (fs 15)))] H := hP
            have hD : va_D A [(h0, .inr (12, [.int 0, .int 0, .ref (am 2), .ref (am 3), .ref (am 4), .int 0, .ref (am 6), .ref (am 7), .ref (am 8), .int 0, .ref (am 10), .ref (am 11), .ref (am 12), .ref (am 13), .ref (am 14), .ref (am 15), .int 0, .ref (am 17), .ref (am 18), .ref (am 19), .ref (am 20), .int 0, .ref (am 22), .int 0, .ref (am 24), .ref (am 25), .ref (am 26), .ref (am 27), .ref (am 28), .ref (am 29), .int 0, .ref (am 31), .ref (am 32), .ref (am 33), .int 0, .ref (am 35), .int 0, .ref (am 37), .ref (am 38), .ref (am 39), .ref (am 40), .ref (am 41), .ref (am 42), .ref (am 43), .int 0, .ref (am 45), .ref (am 46), .ref (am 47), .int 0, .ref (am 49), .int 0, .ref (am 51), .int 0, .ref (am 53), .ref (am 54), .int 1, .int 0, .ref (am 57), .long 0, .ref (am 59), .ref (am 60), .long 0, .int 0, .int 0, .int 0, .int 0, .int 0, .int 0, .ref (am 68), .int 0, .int 0, .ref (am 71), .ref (am 72), .ref (am 73), .ref (am 74), .ref (am 75), .ref (am 76), .ref (am 77), .ref (am 78)])), (am 10, .inl (cs 10, 12, .inl (upd (fs 10) (0 : Int32).toNatClampNeg p0))), (am 11, .inl (cs 11, 12, .inl (fs 11))), (am 12, .inl (cs 12, 12, .inl (upd (fs 12) (0 : Int32).toNatClampNeg p1))), (am 13, .inl (cs 13, 12, .inl (fs 13))), (am 14, .inl (cs 14, 12, .inl (fs 14))), (am 15, .inl (cs 15, 12, .inl (fs 15)))] := hD
            refine lv_aload_n hx hb dX12_body_85 rfl (lv_at hl 0 rfl) ?_
            refine va_get (D := (dC, dI)) (ci := 12) (v := .ref (am 11)) (C := RX12) (T := TX12) (N := 79) hx hb hts (by decide +kernel) hown hK hP 0 rfl rfl 11 (by decide) (hts (.fieldLink RX12 31 "RedTentModel" "began" "[I") (by decide +kernel)) (fun _ h9 => h9) rfl dX12_body_86 ?_
            refine lv_aload_n hx hb dX12_body_89 rfl (lv_at hl 0 rfl) ?_
            refine va_get (D := (dC, dI)) (ci := 12) (v := .int 0) (C := RX12) (T := TX12) (N := 79) hx hb hts (by decide +kernel) hown hK hP 0 rfl rfl 16 (by decide) (hts (.fieldLink RX12 190 "RedTentModel" "bodies" "I") (by decide +kernel)) (fun _ h9 => h9) rfl dX12_body_90 ?_
            refine lv_aload_n hx hb dX12_body_93 rfl (lv_at hl 0 rfl) ?_
            refine va_get (D := (dC, dI)) (ci := 12) (v := .int 0) (C := RX12) (T := TX12) (N := 79) hx hb hts (by decide +kernel) hown hK hP 0 rfl rfl 0 (by decide) (hts (.fieldLink RX12 201 "RedTentModel" "hour" "I") (by decide +kernel)) (fun _ h9 => h9) rfl dX12_body_94 ?_
            refine va_iast hx hb hK hP hD hS 2 1 rfl rfl (by unfold vp_in; decide) dX12_body_97 (fun H locs hP hD hS => ?_)
            have hP : va_P (dC, dI) vwCl [(h0, .inr (12, [.int 0, .int 0, .ref (am 2), .ref (am 3), .ref (am 4), .int 0, .ref (am 6), .ref (am 7), .ref (am 8), .int 0, .ref (am 10), .ref (am 11), .ref (am 12), .ref (am 13), .ref (am 14), .ref (am 15), .int 0, .ref (am 17), .ref (am 18), .ref (am 19), .ref (am 20), .int 0, .ref (am 22), .int 0, .ref (am 24), .ref (am 25), .ref (am 26), .ref (am 27), .ref (am 28), .ref (am 29), .int 0, .ref (am 31), .ref (am 32), .ref (am 33), .int 0, .ref (am 35), .int 0, .ref (am 37), .ref (am 38), .ref (am 39), .ref (am 40), .ref (am 41), .ref (am 42), .ref (am 43), .int 0, .ref (am 45), .ref (am 46), .ref (am 47), .int 0, .ref (am 49), .int 0, .ref (am 51), .int 0, .ref (am 53), .ref (am 54), .int 1, .int 0, .ref (am 57), .long 0, .ref (am 59), .ref (am 60), .long 0, .int 0, .int 0, .int 0, .int 0, .int 0, .int 0, .ref (am 68), .int 0, .int 0, .ref (am 71), .ref (am 72), .ref (am 73), .ref (am 74), .ref (am 75), .ref (am 76), .ref (am 77), .ref (am 78)])), (am 10, .inl (cs 10, 12, .inl (upd (fs 10) (0 : Int32).toNatClampNeg p0))), (am 11, .inl (cs 11, 12, .inl (upd (fs 11) (0 : Int32).toNatClampNeg 0))), (am 12, .inl (cs 12, 12, .inl (upd (fs 12) (0 : Int32).toNatClampNeg p1))), (am 13, .inl (cs 13, 12, .inl (fs 13))), (am 14, .inl (cs 14, 12, .inl (fs 14))), (am 15, .inl (cs 15, 12, .inl (fs 15)))] H := hP
            have hD : va_D A [(h0, .inr (12, [.int 0, .int 0, .ref (am 2), .ref (am 3), .ref (am 4), .int 0, .ref (am 6), .ref (am 7), .ref (am 8), .int 0, .ref (am 10), .ref (am 11), .ref (am 12), .ref (am 13), .ref (am 14), .ref (am 15), .int 0, .ref (am 17), .ref (am 18), .ref (am 19), .ref (am 20), .int 0, .ref (am 22), .int 0, .ref (am 24), .ref (am 25), .ref (am 26), .ref (am 27), .ref (am 28), .ref (am 29), .int 0, .ref (am 31), .ref (am 32), .ref (am 33), .int 0, .ref (am 35), .int 0, .ref (am 37), .ref (am 38), .ref (am 39), .ref (am 40), .ref (am 41), .ref (am 42), .ref (am 43), .int 0, .ref (am 45), .ref (am 46), .ref (am 47), .int 0, .ref (am 49), .int 0, .ref (am 51), .int 0, .ref (am 53), .ref (am 54), .int 1, .int 0, .ref (am 57), .long 0, .ref (am 59), .ref (am 60), .long 0, .int 0, .int 0, .int 0, .int 0, .int 0, .int 0, .ref (am 68), .int 0, .int 0, .ref (am 71), .ref (am 72), .ref (am 73), .ref (am 74), .ref (am 75), .ref (am 76), .ref (am 77), .ref (am 78)])), (am 10, .inl (cs 10, 12, .inl (upd (fs 10) (0 : Int32).toNatClampNeg p0))), (am 11, .inl (cs 11, 12, .inl (upd (fs 11) (0 : Int32).toNatClampNeg 0))), (am 12, .inl (cs 12, 12, .inl (upd (fs 12) (0 : Int32).toNatClampNeg p1))), (am 13, .inl (cs 13, 12, .inl (fs 13))), (am 14, .inl (cs 14, 12, .inl (fs 14))), (am 15, .inl (cs 15, 12, .inl (fs 15)))] := hD
            refine lv_aload_n hx hb dX12_body_98 rfl (lv_at hl 0 rfl) ?_
            refine va_get (D := (dC, dI)) (ci := 12) (v := .ref (am 13)) (C := RX12) (T := TX12) (N := 79) hx hb hts (by decide +kernel) hown hK hP 0 rfl rfl 13 (by decide) (hts (.fieldLink RX12 37 "RedTentModel" "menOf" "[I") (by decide +kernel)) (fun _ h9 => h9) rfl dX12_body_99 ?_
            refine lv_aload_n hx hb dX12_body_102 rfl (lv_at hl 0 rfl) ?_
            refine va_get (D := (dC, dI)) (ci := 12) (v := .int 0) (C := RX12) (T := TX12) (N := 79) hx hb hts (by decide +kernel) hown hK hP 0 rfl rfl 16 (by decide) (hts (.fieldLink RX12 190 "RedTentModel" "bodies" "I") (by decide +kernel)) (fun _ h9 => h9) rfl dX12_body_103 ?_
            refine lv_iload_n hx hb dX12_body_106 rfl (lv_at hl 3 rfl) ?_
            refine va_iast hx hb hK hP hD hS 4 3 rfl rfl (by unfold vp_in; decide) dX12_body_107 (fun H locs hP hD hS => ?_)
            have hP : va_P (dC, dI) vwCl [(h0, .inr (12, [.int 0, .int 0, .ref (am 2), .ref (am 3), .ref (am 4), .int 0, .ref (am 6), .ref (am 7), .ref (am 8), .int 0, .ref (am 10), .ref (am 11), .ref (am 12), .ref (am 13), .ref (am 14), .ref (am 15), .int 0, .ref (am 17), .ref (am 18), .ref (am 19), .ref (am 20), .int 0, .ref (am 22), .int 0, .ref (am 24), .ref (am 25), .ref (am 26), .ref (am 27), .ref (am 28), .ref (am 29), .int 0, .ref (am 31), .ref (am 32), .ref (am 33), .int 0, .ref (am 35), .int 0, .ref (am 37), .ref (am 38), .ref (am 39), .ref (am 40), .ref (am 41), .ref (am 42), .ref (am 43), .int 0, .ref (am 45), .ref (am 46), .ref (am 47), .int 0, .ref (am 49), .int 0, .ref (am 51), .int 0, .ref (am 53), .ref (am 54), .int 1, .int 0, .ref (am 57), .long 0, .ref (am 59), .ref (am 60), .long 0, .int 0, .int 0, .int 0, .int 0, .int 0, .int 0, .ref (am 68), .int 0, .int 0, .ref (am 71), .ref (am 72), .ref (am 73), .ref (am 74), .ref (am 75), .ref (am 76), .ref (am 77), .ref (am 78)])), (am 10, .inl (cs 10, 12, .inl (upd (fs 10) (0 : Int32).toNatClampNeg p0))), (am 11, .inl (cs 11, 12, .inl (upd (fs 11) (0 : Int32).toNatClampNeg 0))), (am 12, .inl (cs 12, 12, .inl (upd (fs 12) (0 : Int32).toNatClampNeg p1))), (am 13, .inl (cs 13, 12, .inl (upd (fs 13) (0 : Int32).toNatClampNeg p2))), (am 14, .inl (cs 14, 12, .inl (fs 14))), (am 15, .inl (cs 15, 12, .inl (fs 15)))] H := hP
            have hD : va_D A [(h0, .inr (12, [.int 0, .int 0, .ref (am 2), .ref (am 3), .ref (am 4), .int 0, .ref (am 6), .ref (am 7), .ref (am 8), .int 0, .ref (am 10), .ref (am 11), .ref (am 12), .ref (am 13), .ref (am 14), .ref (am 15), .int 0, .ref (am 17), .ref (am 18), .ref (am 19), .ref (am 20), .int 0, .ref (am 22), .int 0, .ref (am 24), .ref (am 25), .ref (am 26), .ref (am 27), .ref (am 28), .ref (am 29), .int 0, .ref (am 31), .ref (am 32), .ref (am 33), .int 0, .ref (am 35), .int 0, .ref (am 37), .ref (am 38), .ref (am 39), .ref (am 40), .ref (am 41), .ref (am 42), .ref (am 43), .int 0, .ref (am 45), .ref (am 46), .ref (am 47), .int 0, .ref (am 49), .int 0, .ref (am 51), .int 0, .ref (am 53), .ref (am 54), .int 1, .int 0, .ref (am 57), .long 0, .ref (am 59), .ref (am 60), .long 0, .int 0, .int 0, .int 0, .int 0, .int 0, .int 0, .ref (am 68), .int 0, .int 0, .ref (am 71), .ref (am 72), .ref (am 73), .ref (am 74), .ref (am 75), .ref (am 76), .ref (am 77), .ref (am 78)])), (am 10, .inl (cs 10, 12, .inl (upd (fs 10) (0 : Int32).toNatClampNeg p0))), (am 11, .inl (cs 11, 12, .inl (upd (fs 11) (0 : Int32).toNatClampNeg 0))), (am 12, .inl (cs 12, 12, .inl (upd (fs 12) (0 : Int32).toNatClampNeg p1))), (am 13, .inl (cs 13, 12, .inl (upd (fs 13) (0 : Int32).toNatClampNeg p2))), (am 14, .inl (cs 14, 12, .inl (fs 14))), (am 15, .inl (cs 15, 12, .inl (fs 15)))] := hD
            refine lv_aload_n hx hb dX12_body_108 rfl (lv_at hl 0 rfl) ?_
            refine va_get (D := (dC, dI)) (ci := 12) (v := .ref (am 14)) (C := RX12) (T := TX12) (N := 79) hx hb hts (by decide +kernel) hown hK hP 0 rfl rfl 14 (by decide) (hts (.fieldLink RX12 40 "RedTentModel" "food" "[I") (by decide +kernel)) (fun _ h9 => h9) rfl dX12_body_109 ?_
            refine lv_aload_n hx hb dX12_body_112 rfl (lv_at hl 0 rfl) ?_
            refine va_get (D := (dC, dI)) (ci := 12) (v := .int 0) (C := RX12) (T := TX12) (N := 79) hx hb hts (by decide +kernel) hown hK hP 0 rfl rfl 16 (by decide) (hts (.fieldLink RX12 190 "RedTentModel" "bodies" "I") (by decide +kernel)) (fun _ h9 => h9) rfl dX12_body_113 ?_
            refine lv_iload hx hb dX12_body_116 (lv_at hl 4 rfl) ?_
            refine va_iast hx hb hK hP hD hS 5 4 rfl rfl (by unfold vp_in; decide) dX12_body_118 (fun H locs hP hD hS => ?_)
            have hP : va_P (dC, dI) vwCl [(h0, .inr (12, [.int 0, .int 0, .ref (am 2), .ref (am 3), .ref (am 4), .int 0, .ref (am 6), .ref (am 7), .ref (am 8), .int 0, .ref (am 10), .ref (am 11), .ref (am 12), .ref (am 13), .ref (am 14), .ref (am 15), .int 0, .ref (am 17), .ref (am 18), .ref (am 19), .ref (am 20), .int 0, .ref (am 22), .int 0, .ref (am 24), .ref (am 25), .ref (am 26), .ref (am 27), .ref (am 28), .ref (am 29), .int 0, .ref (am 31), .ref (am 32), .ref (am 33), .int 0, .ref (am 35), .int 0, .ref (am 37), .ref (am 38), .ref (am 39), .ref (am 40), .ref (am 41), .ref (am 42), .ref (am 43), .int 0, .ref (am 45), .ref (am 46), .ref (am 47), .int 0, .ref (am 49), .int 0, .ref (am 51), .int 0, .ref (am 53), .ref (am 54), .int 1, .int 0, .ref (am 57), .long 0, .ref (am 59), .ref (am 60), .long 0, .int 0, .int 0, .int 0, .int 0, .int 0, .int 0, .ref (am 68), .int 0, .int 0, .ref (am 71), .ref (am 72), .ref (am 73), .ref (am 74), .ref (am 75), .ref (am 76), .ref (am 77), .ref (am 78)])), (am 10, .inl (cs 10, 12, .inl (upd (fs 10) (0 : Int32).toNatClampNeg p0))), (am 11, .inl (cs 11, 12, .inl (upd (fs 11) (0 : Int32).toNatClampNeg 0))), (am 12, .inl (cs 12, 12, .inl (upd (fs 12) (0 : Int32).toNatClampNeg p1))), (am 13, .inl (cs 13, 12, .inl (upd (fs 13) (0 : Int32).toNatClampNeg p2))), (am 14, .inl (cs 14, 12, .inl (upd (fs 14) (0 : Int32).toNatClampNeg p3))), (am 15, .inl (cs 15, 12, .inl (fs 15)))] H := hP
            have hD : va_D A [(h0, .inr (12, [.int 0, .int 0, .ref (am 2), .ref (am 3), .ref (am 4), .int 0, .ref (am 6), .ref (am 7), .ref (am 8), .int 0, .ref (am 10), .ref (am 11), .ref (am 12), .ref (am 13), .ref (am 14), .ref (am 15), .int 0, .ref (am 17), .ref (am 18), .ref (am 19), .ref (am 20), .int 0, .ref (am 22), .int 0, .ref (am 24), .ref (am 25), .ref (am 26), .ref (am 27), .ref (am 28), .ref (am 29), .int 0, .ref (am 31), .ref (am 32), .ref (am 33), .int 0, .ref (am 35), .int 0, .ref (am 37), .ref (am 38), .ref (am 39), .ref (am 40), .ref (am 41), .ref (am 42), .ref (am 43), .int 0, .ref (am 45), .ref (am 46), .ref (am 47), .int 0, .ref (am 49), .int 0, .ref (am 51), .int 0, .ref (am 53), .ref (am 54), .int 1, .int 0, .ref (am 57), .long 0, .ref (am 59), .ref (am 60), .long 0, .int 0, .int 0, .int 0, .int 0, .int 0, .int 0, .ref (am 68), .int 0, .int 0, .ref (am 71), .ref (am 72), .ref (am 73), .ref (am 74), .ref (am 75), .ref (am 76), .ref (am 77), .ref (am 78)])), (am 10, .inl (cs 10, 12, .inl (upd (fs 10) (0 : Int32).toNatClampNeg p0))), (am 11, .inl (cs 11, 12, .inl (upd (fs 11) (0 : Int32).toNatClampNeg 0))), (am 12, .inl (cs 12, 12, .inl (upd (fs 12) (0 : Int32).toNatClampNeg p1))), (am 13, .inl (cs 13, 12, .inl (upd (fs 13) (0 : Int32).toNatClampNeg p2))), (am 14, .inl (cs 14, 12, .inl (upd (fs 14) (0 : Int32).toNatClampNeg p3))), (am 15, .inl (cs 15, 12, .inl (fs 15)))] := hD
            refine lv_aload_n hx hb dX12_body_119 rfl (lv_at hl 0 rfl) ?_
            refine va_get (D := (dC, dI)) (ci := 12) (v := .ref (am 15)) (C := RX12) (T := TX12) (N := 79) hx hb hts (by decide +kernel) hown hK hP 0 rfl rfl 15 (by decide) (hts (.fieldLink RX12 43 "RedTentModel" "fuel" "[I") (by decide +kernel)) (fun _ h9 => h9) rfl dX12_body_120 ?_
            refine lv_aload_n hx hb dX12_body_123 rfl (lv_at hl 0 rfl) ?_
            refine va_get (D := (dC, dI)) (ci := 12) (v := .int 0) (C := RX12) (T := TX12) (N := 79) hx hb hts (by decide +kernel) hown hK hP 0 rfl rfl 16 (by decide) (hts (.fieldLink RX12 190 "RedTentModel" "bodies" "I") (by decide +kernel)) (fun _ h9 => h9) rfl dX12_body_124 ?_
            refine lv_iload hx hb dX12_body_127 (lv_at hl 5 rfl) ?_
            refine va_iast hx hb hK hP hD hS 6 5 rfl rfl (by unfold vp_in; decide) dX12_body_129 (fun H locs hP hD hS => ?_)
            have hP : va_P (dC, dI) vwCl [(h0, .inr (12, [.int 0, .int 0, .ref (am 2), .ref (am 3), .ref (am 4), .int 0, .ref (am 6), .ref (am 7), .ref (am 8), .int 0, .ref (am 10), .ref (am 11), .ref (am 12), .ref (am 13), .ref (am 14), .ref (am 15), .int 0, .ref (am 17), .ref (am 18), .ref (am 19), .ref (am 20), .int 0, .ref (am 22), .int 0, .ref (am 24), .ref (am 25), .ref (am 26), .ref (am 27), .ref (am 28), .ref (am 29), .int 0, .ref (am 31), .ref (am 32), .ref (am 33), .int 0, .ref (am 35), .int 0, .ref (am 37), .ref (am 38), .ref (am 39), .ref (am 40), .ref (am 41), .ref (am 42), .ref (am 43), .int 0, .ref (am 45), .ref (am 46), .ref (am 47), .int 0, .ref (am 49), .int 0, .ref (am 51), .int 0, .ref (am 53), .ref (am 54), .int 1, .int 0, .ref (am 57), .long 0, .ref (am 59), .ref (am 60), .long 0, .int 0, .int 0, .int 0, .int 0, .int 0, .int 0, .ref (am 68), .int 0, .int 0, .ref (am 71), .ref (am 72), .ref (am 73), .ref (am 74), .ref (am 75), .ref (am 76), .ref (am 77), .ref (am 78)])), (am 10, .inl (cs 10, 12, .inl (upd (fs 10) (0 : Int32).toNatClampNeg p0))), (am 11, .inl (cs 11, 12, .inl (upd (fs 11) (0 : Int32).toNatClampNeg 0))), (am 12, .inl (cs 12, 12, .inl (upd (fs 12) (0 : Int32).toNatClampNeg p1))), (am 13, .inl (cs 13, 12, .inl (upd (fs 13) (0 : Int32).toNatClampNeg p2))), (am 14, .inl (cs 14, 12, .inl (upd (fs 14) (0 : Int32).toNatClampNeg p3))), (am 15, .inl (cs 15, 12, .inl (upd (fs 15) (0 : Int32).toNatClampNeg p4)))] H := hP
            have hD : va_D A [(h0, .inr (12, [.int 0, .int 0, .ref (am 2), .ref (am 3), .ref (am 4), .int 0, .ref (am 6), .ref (am 7), .ref (am 8), .int 0, .ref (am 10), .ref (am 11), .ref (am 12), .ref (am 13), .ref (am 14), .ref (am 15), .int 0, .ref (am 17), .ref (am 18), .ref (am 19), .ref (am 20), .int 0, .ref (am 22), .int 0, .ref (am 24), .ref (am 25), .ref (am 26), .ref (am 27), .ref (am 28), .ref (am 29), .int 0, .ref (am 31), .ref (am 32), .ref (am 33), .int 0, .ref (am 35), .int 0, .ref (am 37), .ref (am 38), .ref (am 39), .ref (am 40), .ref (am 41), .ref (am 42), .ref (am 43), .int 0, .ref (am 45), .ref (am 46), .ref (am 47), .int 0, .ref (am 49), .int 0, .ref (am 51), .int 0, .ref (am 53), .ref (am 54), .int 1, .int 0, .ref (am 57), .long 0, .ref (am 59), .ref (am 60), .long 0, .int 0, .int 0, .int 0, .int 0, .int 0, .int 0, .ref (am 68), .int 0, .int 0, .ref (am 71), .ref (am 72), .ref (am 73), .ref (am 74), .ref (am 75), .ref (am 76), .ref (am 77), .ref (am 78)])), (am 10, .inl (cs 10, 12, .inl (upd (fs 10) (0 : Int32).toNatClampNeg p0))), (am 11, .inl (cs 11, 12, .inl (upd (fs 11) (0 : Int32).toNatClampNeg 0))), (am 12, .inl (cs 12, 12, .inl (upd (fs 12) (0 : Int32).toNatClampNeg p1))), (am 13, .inl (cs 13, 12, .inl (upd (fs 13) (0 : Int32).toNatClampNeg p2))), (am 14, .inl (cs 14, 12, .inl (upd (fs 14) (0 : Int32).toNatClampNeg p3))), (am 15, .inl (cs 15, 12, .inl (upd (fs 15) (0 : Int32).toNatClampNeg p4)))] := hD
            refine lv_aload_n hx hb dX12_body_130 rfl (lv_at hl 0 rfl) ?_
            refine lv_dup hx hb dX12_body_131 rfl ?_
            refine va_get (D := (dC, dI)) (ci := 12) (v := .int 0) (C := RX12) (T := TX12) (N := 79) hx hb hts (by decide +kernel) hown hK hP 0 rfl rfl 16 (by decide) (hts (.fieldLink RX12 190 "RedTentModel" "bodies" "I") (by decide +kernel)) (fun _ h9 => h9) rfl dX12_body_132 ?_
            refine lv_iconst (v := 1) hx hb dX12_body_135 (by decide) ?_
            refine lv_iadd hx hb dX12_body_136 ?_
            refine lv_topi (fun y_11 ey_11 => ?_)
            obtain rfl : y_11 = 1 := ey_11.trans (by decide)
            refine va_put (D := (dC, dI)) (ci := 12) (v := .int 1) (ty := .int) (C := RX12) (T := TX12) (N := 79) hx hb hts (by decide +kernel) tyX12 tyX12_ok nmX12 hown hK hP hD hS 0 rfl rfl 16 (by decide) (hts (.fieldLink RX12 190 "RedTentModel" "bodies" "I") (by decide +kernel)) (fun _ h9 => h9) rfl (by decide +kernel) rfl rfl (Nat.le_of_ble_eq_true rfl) dX12_body_137 (fun H locs hP hD hS => ?_)
            have hP : va_P (dC, dI) vwCl [(h0, .inr (12, [.int 0, .int 0, .ref (am 2), .ref (am 3), .ref (am 4), .int 0, .ref (am 6), .ref (am 7), .ref (am 8), .int 0, .ref (am 10), .ref (am 11), .ref (am 12), .ref (am 13), .ref (am 14), .ref (am 15), .int 1, .ref (am 17), .ref (am 18), .ref (am 19), .ref (am 20), .int 0, .ref (am 22), .int 0, .ref (am 24), .ref (am 25), .ref (am 26), .ref (am 27), .ref (am 28), .ref (am 29), .int 0, .ref (am 31), .ref (am 32), .ref (am 33), .int 0, .ref (am 35), .int 0, .ref (am 37), .ref (am 38), .ref (am 39), .ref (am 40), .ref (am 41), .ref (am 42), .ref (am 43), .int 0, .ref (am 45), .ref (am 46), .ref (am 47), .int 0, .ref (am 49), .int 0, .ref (am 51), .int 0, .ref (am 53), .ref (am 54), .int 1, .int 0, .ref (am 57), .long 0, .ref (am 59), .ref (am 60), .long 0, .int 0, .int 0, .int 0, .int 0, .int 0, .int 0, .ref (am 68), .int 0, .int 0, .ref (am 71), .ref (am 72), .ref (am 73), .ref (am 74), .ref (am 75), .ref (am 76), .ref (am 77), .ref (am 78)])), (am 10, .inl (cs 10, 12, .inl (upd (fs 10) (0 : Int32).toNatClampNeg p0))), (am 11, .inl (cs 11, 12, .inl (upd (fs 11) (0 : Int32).toNatClampNeg 0))), (am 12, .inl (cs 12, 12, .inl (upd (fs 12) (0 : Int32).toNatClampNeg p1))), (am 13, .inl (cs 13, 12, .inl (upd (fs 13) (0 : Int32).toNatClampNeg p2))), (am 14, .inl (cs 14, 12, .inl (upd (fs 14) (0 : Int32).toNatClampNeg p3))), (am 15, .inl (cs 15, 12, .inl (upd (fs 15) (0 : Int32).toNatClampNeg p4)))] H := hP
            have hD : va_D A [(h0, .inr (12, [.int 0, .int 0, .ref (am 2), .ref (am 3), .ref (am 4), .int 0, .ref (am 6), .ref (am 7), .ref (am 8), .int 0, .ref (am 10), .ref (am 11), .ref (am 12), .ref (am 13), .ref (am 14), .ref (am 15), .int 1, .ref (am 17), .ref (am 18), .ref (am 19), .ref (am 20), .int 0, .ref (am 22), .int 0, .ref (am 24), .ref (am 25), .ref (am 26), .ref (am 27), .ref (am 28), .ref (am 29), .int 0, .ref (am 31), .ref (am 32), .ref (am 33), .int 0, .ref (am 35), .int 0, .ref (am 37), .ref (am 38), .ref (am 39), .ref (am 40), .ref (am 41), .ref (am 42), .ref (am 43), .int 0, .ref (am 45), .ref (am 46), .ref (am 47), .int 0, .ref (am 49), .int 0, .ref (am 51), .int 0, .ref (am 53), .ref (am 54), .int 1, .int 0, .ref (am 57), .long 0, .ref (am 59), .ref (am 60), .long 0, .int 0, .int 0, .int 0, .int 0, .int 0, .int 0, .ref (am 68), .int 0, .int 0, .ref (am 71), .ref (am 72), .ref (am 73), .ref (am 74), .ref (am 75), .ref (am 76), .ref (am 77), .ref (am 78)])), (am 10, .inl (cs 10, 12, .inl (upd (fs 10) (0 : Int32).toNatClampNeg p0))), (am 11, .inl (cs 11, 12, .inl (upd (fs 11) (0 : Int32).toNatClampNeg 0))), (am 12, .inl (cs 12, 12, .inl (upd (fs 12) (0 : Int32).toNatClampNeg p1))), (am 13, .inl (cs 13, 12, .inl (upd (fs 13) (0 : Int32).toNatClampNeg p2))), (am 14, .inl (cs 14, 12, .inl (upd (fs 14) (0 : Int32).toNatClampNeg p3))), (am 15, .inl (cs 15, 12, .inl (upd (fs 15) (0 : Int32).toNatClampNeg p4)))] := hD
            refine lv_aload_n hx hb dX12_body_140 rfl (lv_at hl 0 rfl) ?_
            refine va_get (D := (dC, dI)) (ci := 12) (v := .int 1) (C := RX12) (T := TX12) (N := 79) hx hb hts (by decide +kernel) hown hK hP 0 rfl rfl 16 (by decide) (hts (.fieldLink RX12 190 "RedTentModel" "bodies" "I") (by decide +kernel)) (fun _ h9 => h9) rfl dX12_body_141 ?_
            refine lv_iconst (v := 1) hx hb dX12_body_144 (by decide) ?_
            refine lv_isub hx hb dX12_body_145 ?_
            refine lv_topi (fun y_12 ey_12 => ?_)
            obtain rfl : y_12 = 0 := ey_12.trans (by decide)
            have hpost : ((0 ≤ p0 ∧ p0 ≤ 5 ∧ 0 ≤ p1 ∧ p1 ≤ 63 ∧ 0 ≤ p2 ∧ p2 ≤ 20 ∧ 0 ≤ p3 ∧ p3 ≤ 9999 ∧ 0 ≤ p4 ∧ p4 ≤ 999) ∧ (0 : Int32) = 0) ∨ ((¬ (0 ≤ p0 ∧ p0 ≤ 5 ∧ 0 ≤ p1 ∧ p1 ≤ 63 ∧ 0 ≤ p2 ∧ p2 ≤ 20 ∧ 0 ≤ p3 ∧ p3 ≤ 9999 ∧ 0 ≤ p4 ∧ p4 ≤ 999)) ∧ (0 : Int32) = (-2)) := by
              try simp only [fa_lt, fa_le, fa_eq, fa_lt64, fa_le64, fa_eq64, Int32.reduceToInt, Int64.reduceToInt, zi_ite] at b_2
              try simp only [fa_lt, fa_le, fa_eq, fa_lt64, fa_le64, fa_eq64, Int32.reduceToInt, Int64.reduceToInt, zi_ite] at b_4
              try simp only [fa_lt, fa_le, fa_eq, fa_lt64, fa_le64, fa_eq64, Int32.reduceToInt, Int64.reduceToInt, zi_ite] at b_6
              try simp only [fa_lt, fa_le, fa_eq, fa_lt64, fa_le64, fa_eq64, Int32.reduceToInt, Int64.reduceToInt, zi_ite] at b_8
              try simp only [fa_lt, fa_le, fa_eq, fa_lt64, fa_le64, fa_eq64, Int32.reduceToInt, Int64.reduceToInt, zi_ite] at b_10
              first
              | exact Or.inl ⟨by (try simp only [fa_lt, fa_le, fa_eq, fa_lt64, fa_le64, fa_eq64, Int32.reduceToInt, Int64.reduceToInt, zi_ite]); omega, rfl⟩
              | exact Or.inr (⟨by (try simp only [fa_lt, fa_le, fa_eq, fa_lt64, fa_le64, fa_eq64, Int32.reduceToInt, Int64.reduceToInt, zi_ite]); omega, rfl⟩)
            refine W.widen (k := 0) (n := 0) (by decide +kernel) (by decide +kernel) ?_
            exact W.iret (v := 0) hx hb hr (fun t ht hW => ⟨⟨0, (), rfl, hpost, trivial⟩, hS.F ht⟩) hS.2.2 dX12_body_146
          · refine lv_if_ne (tgt := 53) hx hb dX12_body_47 (by decide) (fun c9 => absurd (by decide) c9) (fun _ => ?_)
            refine lv_bipush (v := (-2)) hx hb dX12_body_50 (by decide) ?_
            have hpost : ((0 ≤ p0 ∧ p0 ≤ 5 ∧ 0 ≤ p1 ∧ p1 ≤ 63 ∧ 0 ≤ p2 ∧ p2 ≤ 20 ∧ 0 ≤ p3 ∧ p3 ≤ 9999 ∧ 0 ≤ p4 ∧ p4 ≤ 999) ∧ ((-2) : Int32) = 0) ∨ ((¬ (0 ≤ p0 ∧ p0 ≤ 5 ∧ 0 ≤ p1 ∧ p1 ≤ 63 ∧ 0 ≤ p2 ∧ p2 ≤ 20 ∧ 0 ≤ p3 ∧ p3 ≤ 9999 ∧ 0 ≤ p4 ∧ p4 ≤ 999)) ∧ ((-2) : Int32) = (-2)) := by
              try simp only [fa_lt, fa_le, fa_eq, fa_lt64, fa_le64, fa_eq64, Int32.reduceToInt, Int64.reduceToInt, zi_ite] at b_2
              try simp only [fa_lt, fa_le, fa_eq, fa_lt64, fa_le64, fa_eq64, Int32.reduceToInt, Int64.reduceToInt, zi_ite] at b_4
              try simp only [fa_lt, fa_le, fa_eq, fa_lt64, fa_le64, fa_eq64, Int32.reduceToInt, Int64.reduceToInt, zi_ite] at b_6
              try simp only [fa_lt, fa_le, fa_eq, fa_lt64, fa_le64, fa_eq64, Int32.reduceToInt, Int64.reduceToInt, zi_ite] at b_8
              try simp only [fa_lt, fa_le, fa_eq, fa_lt64, fa_le64, fa_eq64, Int32.reduceToInt, Int64.reduceToInt, zi_ite] at b_10
              first
              | exact Or.inl ⟨by (try simp only [fa_lt, fa_le, fa_eq, fa_lt64, fa_le64, fa_eq64, Int32.reduceToInt, Int64.reduceToInt, zi_ite]); omega, rfl⟩
              | exact Or.inr (⟨by (try simp only [fa_lt, fa_le, fa_eq, fa_lt64, fa_le64, fa_eq64, Int32.reduceToInt, Int64.reduceToInt, zi_ite]); omega, rfl⟩)
            refine W.widen (k := 0) (n := 0) (by decide +kernel) (by decide +kernel) ?_
            exact W.iret (v := (-2)) hx hb hr (fun t ht hW => ⟨⟨(-2), (), rfl, hpost, trivial⟩, hS.F ht⟩) hS.2.2 dX12_body_52
        · refine lv_if_eq (tgt := 50) hx hb dX12_body_35 (by decide) (fun _ => ?_) (fun c9 => absurd (by decide) c9)
          refine lv_bipush (v := (-2)) hx hb dX12_body_50 (by decide) ?_
          have hpost : ((0 ≤ p0 ∧ p0 ≤ 5 ∧ 0 ≤ p1 ∧ p1 ≤ 63 ∧ 0 ≤ p2 ∧ p2 ≤ 20 ∧ 0 ≤ p3 ∧ p3 ≤ 9999 ∧ 0 ≤ p4 ∧ p4 ≤ 999) ∧ ((-2) : Int32) = 0) ∨ ((¬ (0 ≤ p0 ∧ p0 ≤ 5 ∧ 0 ≤ p1 ∧ p1 ≤ 63 ∧ 0 ≤ p2 ∧ p2 ≤ 20 ∧ 0 ≤ p3 ∧ p3 ≤ 9999 ∧ 0 ≤ p4 ∧ p4 ≤ 999)) ∧ ((-2) : Int32) = (-2)) := by
            try simp only [fa_lt, fa_le, fa_eq, fa_lt64, fa_le64, fa_eq64, Int32.reduceToInt, Int64.reduceToInt, zi_ite] at b_2
            try simp only [fa_lt, fa_le, fa_eq, fa_lt64, fa_le64, fa_eq64, Int32.reduceToInt, Int64.reduceToInt, zi_ite] at b_4
            try simp only [fa_lt, fa_le, fa_eq, fa_lt64, fa_le64, fa_eq64, Int32.reduceToInt, Int64.reduceToInt, zi_ite] at b_6
            try simp only [fa_lt, fa_le, fa_eq, fa_lt64, fa_le64, fa_eq64, Int32.reduceToInt, Int64.reduceToInt, zi_ite] at b_8
            first
            | exact Or.inl ⟨by (try simp only [fa_lt, fa_le, fa_eq, fa_lt64, fa_le64, fa_eq64, Int32.reduceToInt, Int64.reduceToInt, zi_ite]); omega, rfl⟩
            | exact Or.inr (⟨by (try simp only [fa_lt, fa_le, fa_eq, fa_lt64, fa_le64, fa_eq64, Int32.reduceToInt, Int64.reduceToInt, zi_ite]); omega, rfl⟩)
          refine W.widen (k := 0) (n := 0) (by decide +kernel) (by decide +kernel) ?_
          exact W.iret (v := (-2)) hx hb hr (fun t ht hW => ⟨⟨(-2), (), rfl, hpost, trivial⟩, hS.F ht⟩) hS.2.2 dX12_body_52
      · refine lv_if_eq (tgt := 50) hx hb dX12_body_23 (by decide) (fun _ => ?_) (fun c9 => absurd (by decide) c9)
        refine lv_bipush (v := (-2)) hx hb dX12_body_50 (by decide) ?_
        have hpost : ((0 ≤ p0 ∧ p0 ≤ 5 ∧ 0 ≤ p1 ∧ p1 ≤ 63 ∧ 0 ≤ p2 ∧ p2 ≤ 20 ∧ 0 ≤ p3 ∧ p3 ≤ 9999 ∧ 0 ≤ p4 ∧ p4 ≤ 999) ∧ ((-2) : Int32) = 0) ∨ ((¬ (0 ≤ p0 ∧ p0 ≤ 5 ∧ 0 ≤ p1 ∧ p1 ≤ 63 ∧ 0 ≤ p2 ∧ p2 ≤ 20 ∧ 0 ≤ p3 ∧ p3 ≤ 9999 ∧ 0 ≤ p4 ∧ p4 ≤ 999)) ∧ ((-2) : Int32) = (-2)) := by
          try simp only [fa_lt, fa_le, fa_eq, fa_lt64, fa_le64, fa_eq64, Int32.reduceToInt, Int64.reduceToInt, zi_ite] at b_2
          try simp only [fa_lt, fa_le, fa_eq, fa_lt64, fa_le64, fa_eq64, Int32.reduceToInt, Int64.reduceToInt, zi_ite] at b_4
          try simp only [fa_lt, fa_le, fa_eq, fa_lt64, fa_le64, fa_eq64, Int32.reduceToInt, Int64.reduceToInt, zi_ite] at b_6
          first
          | exact Or.inl ⟨by (try simp only [fa_lt, fa_le, fa_eq, fa_lt64, fa_le64, fa_eq64, Int32.reduceToInt, Int64.reduceToInt, zi_ite]); omega, rfl⟩
          | exact Or.inr (⟨by (try simp only [fa_lt, fa_le, fa_eq, fa_lt64, fa_le64, fa_eq64, Int32.reduceToInt, Int64.reduceToInt, zi_ite]); omega, rfl⟩)
        refine W.widen (k := 0) (n := 0) (by decide +kernel) (by decide +kernel) ?_
        exact W.iret (v := (-2)) hx hb hr (fun t ht hW => ⟨⟨(-2), (), rfl, hpost, trivial⟩, hS.F ht⟩) hS.2.2 dX12_body_52
    · refine lv_if_eq (tgt := 50) hx hb dX12_body_13 (by decide) (fun _ => ?_) (fun c9 => absurd (by decide) c9)
      refine lv_bipush (v := (-2)) hx hb dX12_body_50 (by decide) ?_
      have hpost : ((0 ≤ p0 ∧ p0 ≤ 5 ∧ 0 ≤ p1 ∧ p1 ≤ 63 ∧ 0 ≤ p2 ∧ p2 ≤ 20 ∧ 0 ≤ p3 ∧ p3 ≤ 9999 ∧ 0 ≤ p4 ∧ p4 ≤ 999) ∧ ((-2) : Int32) = 0) ∨ ((¬ (0 ≤ p0 ∧ p0 ≤ 5 ∧ 0 ≤ p1 ∧ p1 ≤ 63 ∧ 0 ≤ p2 ∧ p2 ≤ 20 ∧ 0 ≤ p3 ∧ p3 ≤ 9999 ∧ 0 ≤ p4 ∧ p4 ≤ 999)) ∧ ((-2) : Int32) = (-2)) := by
        try simp only [fa_lt, fa_le, fa_eq, fa_lt64, fa_le64, fa_eq64, Int32.reduceToInt, Int64.reduceToInt, zi_ite] at b_2
        try simp only [fa_lt, fa_le, fa_eq, fa_lt64, fa_le64, fa_eq64, Int32.reduceToInt, Int64.reduceToInt, zi_ite] at b_4
        first
        | exact Or.inl ⟨by (try simp only [fa_lt, fa_le, fa_eq, fa_lt64, fa_le64, fa_eq64, Int32.reduceToInt, Int64.reduceToInt, zi_ite]); omega, rfl⟩
        | exact Or.inr (⟨by (try simp only [fa_lt, fa_le, fa_eq, fa_lt64, fa_le64, fa_eq64, Int32.reduceToInt, Int64.reduceToInt, zi_ite]); omega, rfl⟩)
      refine W.widen (k := 0) (n := 0) (by decide +kernel) (by decide +kernel) ?_
      exact W.iret (v := (-2)) hx hb hr (fun t ht hW => ⟨⟨(-2), (), rfl, hpost, trivial⟩, hS.F ht⟩) hS.2.2 dX12_body_52
  · refine lv_if_eq (tgt := 50) hx hb dX12_body_6 (by decide) (fun _ => ?_) (fun c9 => absurd (by decide) c9)
    refine lv_bipush (v := (-2)) hx hb dX12_body_50 (by decide) ?_
    have hpost : ((0 ≤ p0 ∧ p0 ≤ 5 ∧ 0 ≤ p1 ∧ p1 ≤ 63 ∧ 0 ≤ p2 ∧ p2 ≤ 20 ∧ 0 ≤ p3 ∧ p3 ≤ 9999 ∧ 0 ≤ p4 ∧ p4 ≤ 999) ∧ ((-2) : Int32) = 0) ∨ ((¬ (0 ≤ p0 ∧ p0 ≤ 5 ∧ 0 ≤ p1 ∧ p1 ≤ 63 ∧ 0 ≤ p2 ∧ p2 ≤ 20 ∧ 0 ≤ p3 ∧ p3 ≤ 9999 ∧ 0 ≤ p4 ∧ p4 ≤ 999)) ∧ ((-2) : Int32) = (-2)) := by
      try simp only [fa_lt, fa_le, fa_eq, fa_lt64, fa_le64, fa_eq64, Int32.reduceToInt, Int64.reduceToInt, zi_ite] at b_2
      first
      | exact Or.inl ⟨by (try simp only [fa_lt, fa_le, fa_eq, fa_lt64, fa_le64, fa_eq64, Int32.reduceToInt, Int64.reduceToInt, zi_ite]); omega, rfl⟩
      | exact Or.inr (⟨by (try simp only [fa_lt, fa_le, fa_eq, fa_lt64, fa_le64, fa_eq64, Int32.reduceToInt, Int64.reduceToInt, zi_ite]); omega, rfl⟩)
    refine W.widen (k := 0) (n := 0) (by decide +kernel) (by decide +kernel) ?_
    exact W.iret (v := (-2)) hx hb hr (fun t ht hW => ⟨⟨(-2), (), rfl, hpost, trivial⟩, hS.F ht⟩) hS.2.2 dX12_body_52
set_option maxHeartbeats 1000000 in
set_option maxRecDepth 100000 in
theorem rt_X12_hearer (l : Launch) (dC : Nat → ClassId) (dI : Nat → Nat → Nat) (sz : Nat) (h0 : Nat) (am : Nat → Nat) (cs : Nat → ClassId) (fs : Nat → Nat → Int32) (p0 : Int32) : Met l yX12_hearer wsX12_hearer ({ frames := 2, cells := 0, slots := 0, locals := 42 }) (va_Pc [.ref h0, .int p0] (fun U => U.heap.size = sz ∧ va_P (dC, dI) vwCl [(h0, .inr (12, [.int 0, .int 0, .ref (am 2), .ref (am 3), .ref (am 4), .int 0, .ref (am 6), .ref (am 7), .ref (am 8), .int 0, .ref (am 10), .ref (am 11), .ref (am 12), .ref (am 13), .ref (am 14), .ref (am 15), .int 0, .ref (am 17), .ref (am 18), .ref (am 19), .ref (am 20), .int 0, .ref (am 22), .int 0, .ref (am 24), .ref (am 25), .ref (am 26), .ref (am 27), .ref (am 28), .ref (am 29), .int 0, .ref (am 31), .ref (am 32), .ref (am 33), .int 0, .ref (am 35), .int 0, .ref (am 37), .ref (am 38), .ref (am 39), .ref (am 40), .ref (am 41), .ref (am 42), .ref (am 43), .int 0, .ref (am 45), .ref (am 46), .ref (am 47), .int 0, .ref (am 49), .int 0, .ref (am 51), .int 0, .ref (am 53), .ref (am 54), .int 1, .int 0, .ref (am 57), .long 0, .ref (am 59), .ref (am 60), .long 0, .int 0, .int 0, .int 0, .int 0, .int 0, .int 0, .ref (am 68), .int 0, .int 0, .ref (am 71), .ref (am 72), .ref (am 73), .ref (am 74), .ref (am 75), .ref (am 76), .ref (am 77), .ref (am 78)])), (am 22, .inl (cs 22, 6, .inl (fs 22)))] U.heap ∧ va_K (dC, dI) vwCl [(cs 22, .int)] U ∧ va_D (fun _ => True) [(h0, .inr (12, [.int 0, .int 0, .ref (am 2), .ref (am 3), .ref (am 4), .int 0, .ref (am 6), .ref (am 7), .ref (am 8), .int 0, .ref (am 10), .ref (am 11), .ref (am 12), .ref (am 13), .ref (am 14), .ref (am 15), .int 0, .ref (am 17), .ref (am 18), .ref (am 19), .ref (am 20), .int 0, .ref (am 22), .int 0, .ref (am 24), .ref (am 25), .ref (am 26), .ref (am 27), .ref (am 28), .ref (am 29), .int 0, .ref (am 31), .ref (am 32), .ref (am 33), .int 0, .ref (am 35), .int 0, .ref (am 37), .ref (am 38), .ref (am 39), .ref (am 40), .ref (am 41), .ref (am 42), .ref (am 43), .int 0, .ref (am 45), .ref (am 46), .ref (am 47), .int 0, .ref (am 49), .int 0, .ref (am 51), .int 0, .ref (am 53), .ref (am 54), .int 1, .int 0, .ref (am 57), .long 0, .ref (am 59), .ref (am 60), .long 0, .int 0, .int 0, .int 0, .int 0, .int 0, .int 0, .ref (am 68), .int 0, .int 0, .ref (am 71), .ref (am 72), .ref (am 73), .ref (am 74), .ref (am 75), .ref (am 76), .ref (am 77), .ref (am 78)])), (am 22, .inl (cs 22, 6, .inl (fs 22)))])) (va_Qi (fun (r : Int32) (u : Unit) => match u with | () => ((0 ≤ p0 ∧ p0 ≤ 63) ∧ r = 0) ∨ ((¬ (0 ≤ p0 ∧ p0 ≤ 63)) ∧ r = (-2))) (fun (u : Unit) (t : State) => match u with | () => True) (va_A [(h0, .inr (12, [.int 0, .int 0, .ref (am 2), .ref (am 3), .ref (am 4), .int 0, .ref (am 6), .ref (am 7), .ref (am 8), .int 0, .ref (am 10), .ref (am 11), .ref (am 12), .ref (am 13), .ref (am 14), .ref (am 15), .int 0, .ref (am 17), .ref (am 18), .ref (am 19), .ref (am 20), .int 0, .ref (am 22), .int 0, .ref (am 24), .ref (am 25), .ref (am 26), .ref (am 27), .ref (am 28), .ref (am 29), .int 0, .ref (am 31), .ref (am 32), .ref (am 33), .int 0, .ref (am 35), .int 0, .ref (am 37), .ref (am 38), .ref (am 39), .ref (am 40), .ref (am 41), .ref (am 42), .ref (am 43), .int 0, .ref (am 45), .ref (am 46), .ref (am 47), .int 0, .ref (am 49), .int 0, .ref (am 51), .int 0, .ref (am 53), .ref (am 54), .int 1, .int 0, .ref (am 57), .long 0, .ref (am 59), .ref (am 60), .long 0, .int 0, .int 0, .int 0, .int 0, .int 0, .int 0, .ref (am 68), .int 0, .int 0, .ref (am 71), .ref (am 72), .ref (am 73), .ref (am 74), .ref (am 75), .ref (am 76), .ref (am 77), .ref (am 78)])), (am 22, .inl (cs 22, 6, .inl (fs 22)))] sz)) 0 0 (va_A [(h0, .inr (12, [.int 0, .int 0, .ref (am 2), .ref (am 3), .ref (am 4), .int 0, .ref (am 6), .ref (am 7), .ref (am 8), .int 0, .ref (am 10), .ref (am 11), .ref (am 12), .ref (am 13), .ref (am 14), .ref (am 15), .int 0, .ref (am 17), .ref (am 18), .ref (am 19), .ref (am 20), .int 0, .ref (am 22), .int 0, .ref (am 24), .ref (am 25), .ref (am 26), .ref (am 27), .ref (am 28), .ref (am 29), .int 0, .ref (am 31), .ref (am 32), .ref (am 33), .int 0, .ref (am 35), .int 0, .ref (am 37), .ref (am 38), .ref (am 39), .ref (am 40), .ref (am 41), .ref (am 42), .ref (am 43), .int 0, .ref (am 45), .ref (am 46), .ref (am 47), .int 0, .ref (am 49), .int 0, .ref (am 51), .int 0, .ref (am 53), .ref (am 54), .int 1, .int 0, .ref (am 57), .long 0, .ref (am 59), .ref (am 60), .long 0, .int 0, .int 0, .int 0, .int 0, .int 0, .int 0, .ref (am 68), .int 0, .int 0, .ref (am 71), .ref (am 72), .ref (am 73), .ref (am 74), .ref (am 75), .ref (am 76), .ref (am 77), .ref (am 78)])), (am 22, .inl (cs 22, 6, .inl (fs 22)))] sz) := by
  refine Met.ofW (cc := cX12_hearer) (maxL := 2) (ret := (some .int)) (by decide) rfl ?_
  intro p e s m args below meth c s₁ B hml hv
  obtain ⟨rfl, hsz, hP, hK, hD0⟩ := hv
  have hx := B.exec
  have hb := B.bytes
  have hr := B.returns
  have hts := atoms_spec (ws := wsX12_hearer) B.pre
  have hown : s.vm.findClass RX12 = some m.cls := findClass_of_methodNamed B.named
  have hlocks := B.notSynchronized
  subst hsz
  have hD := hD0.self (sz := s.heap.size)
  generalize hAe : va_A [(h0, .inr (12, [.int 0, .int 0, .ref (am 2), .ref (am 3), .ref (am 4), .int 0, .ref (am 6), .ref (am 7), .ref (am 8), .int 0, .ref (am 10), .ref (am 11), .ref (am 12), .ref (am 13), .ref (am 14), .ref (am 15), .int 0, .ref (am 17), .ref (am 18), .ref (am 19), .ref (am 20), .int 0, .ref (am 22), .int 0, .ref (am 24), .ref (am 25), .ref (am 26), .ref (am 27), .ref (am 28), .ref (am 29), .int 0, .ref (am 31), .ref (am 32), .ref (am 33), .int 0, .ref (am 35), .int 0, .ref (am 37), .ref (am 38), .ref (am 39), .ref (am 40), .ref (am 41), .ref (am 42), .ref (am 43), .int 0, .ref (am 45), .ref (am 46), .ref (am 47), .int 0, .ref (am 49), .int 0, .ref (am 51), .int 0, .ref (am 53), .ref (am 54), .int 1, .int 0, .ref (am 57), .long 0, .ref (am 59), .ref (am 60), .long 0, .int 0, .int 0, .int 0, .int 0, .int 0, .int 0, .ref (am 68), .int 0, .int 0, .ref (am 71), .ref (am 72), .ref (am 73), .ref (am 74), .ref (am 75), .ref (am 76), .ref (am 77), .ref (am 78)])), (am 22, .inl (cs 22, 6, .inl (fs 22)))] s.heap.size = A at hD  ⊢
  have hA : ∀ q : Nat, s.heap.size ≤ q → A q := fun q h => by rw [← hAe]; exact Or.inr h
  have hS : va_S A s.heap s.heap [] := va_S.rf
  have hl := lv_entry ([.ref h0, .int p0]) (n := 2) (Nat.le_of_ble_eq_true rfl)
  rw [lg_entry_eq]
  generalize (lg_sl ([.ref h0, .int p0]) ++ List.replicate (2 - (lg_sl ([.ref h0, .int p0])).length) Slot.unset).toArray = ls at hl ⊢
  have hl : lv_has ls 2 [(0, .ref h0), (1, .int p0)] := hl
  refine lv_iload_n hx hb dX12_hearer_0 rfl (lv_at hl 1 rfl) ?_
  refine vp_callSi (va_Run.run (va_runS (As := [.int p0]) (rest := []) ⟨hx, hb, hml, hown, hts⟩ (rt_X12_isCell l p0) (va_cwS 1 hts gX12_hearer_X12_isCell rfl rfl rfl (by decide +kernel) ⟨Nat.le_of_ble_eq_true rfl, Nat.le_of_ble_eq_true rfl⟩) ⟨fun a U g mk q => q, fun U hU hW => ⟨rfl, trivial⟩⟩ rfl rfl hl.1 rfl (lv_room (Nat.le_of_ble_eq_true rfl)) dX12_hearer_1 ⟨by decide +kernel, by decide +kernel⟩)) (fun r_1 hr_1 => ?_)
  rcases hr_1 with ⟨b_2, rfl⟩ | ⟨b_2, rfl⟩
  · refine lv_if_ne (tgt := 10) hx hb dX12_hearer_4 (by decide) (fun _ => ?_) (fun c9 => absurd c9 (by decide))
    refine lv_aload_n hx hb dX12_hearer_10 rfl (lv_at hl 0 rfl) ?_
    refine va_get (D := (dC, dI)) (ci := 12) (v := .int 0) (C := RX12) (T := TX12) (N := 79) hx hb hts (by decide +kernel) hown hK hP 0 rfl rfl 23 (by decide) (hts (.fieldLink RX12 246 "RedTentModel" "hearers" "I") (by decide +kernel)) (fun _ h9 => h9) rfl dX12_hearer_11 ?_
    refine lv_bipush (v := 6) hx hb dX12_hearer_14 (by decide) ?_
    refine lv_icmp_ne (tgt := 22) hx hb dX12_hearer_16 (by decide) (fun _ => ?_) (fun c9 => absurd c9 (by decide))
    refine lv_aload_n hx hb dX12_hearer_22 rfl (lv_at hl 0 rfl) ?_
    refine va_get (D := (dC, dI)) (ci := 12) (v := .ref (am 22)) (C := RX12) (T := TX12) (N := 79) hx hb hts (by decide +kernel) hown hK hP 0 rfl rfl 22 (by decide) (hts (.fieldLink RX12 59 "RedTentModel" "hearerCell" "[I") (by decide +kernel)) (fun _ h9 => h9) rfl dX12_hearer_23 ?_
    refine lv_aload_n hx hb dX12_hearer_26 rfl (lv_at hl 0 rfl) ?_
    refine va_get (D := (dC, dI)) (ci := 12) (v := .int 0) (C := RX12) (T := TX12) (N := 79) hx hb hts (by decide +kernel) hown hK hP 0 rfl rfl 23 (by decide) (hts (.fieldLink RX12 246 "RedTentModel" "hearers" "I") (by decide +kernel)) (fun _ h9 => h9) rfl dX12_hearer_27 ?_
    refine lv_iload_n hx hb dX12_hearer_30 rfl (lv_at hl 1 rfl) ?_
    refine va_iast hx hb hK hP hD hS 1 0 rfl rfl (by unfold vp_in; decide) dX12_hearer_31 (fun H locs hP hD hS => ?_)
    have hP : va_P (dC, dI) vwCl [(h0, .inr (12, [.int 0, .int 0, .ref (am 2), .ref (am 3), .ref (am 4), .int 0, .ref (am 6), .ref (am 7), .ref (am 8), .int 0, .ref (am 10), .ref (am 11), .ref (am 12), .ref (am 13), .ref (am 14), .ref (am 15), .int 0, .ref (am 17), .ref (am 18), .ref (am 19), .ref (am 20), .int 0, .ref (am 22), .int 0, .ref (am 24), .ref (am 25), .ref (am 26), .ref (am 27), .ref (am 28), .ref (am 29), .int 0, .ref (am 31), .ref (am 32), .ref (am 33), .int 0, .ref (am 35), .int 0, .ref (am 37), .ref (am 38), .ref (am 39), .ref (am 40), .ref (am 41), .ref (am 42), .ref (am 43), .int 0, .ref (am 45), .ref (am 46), .ref (am 47), .int 0, .ref (am 49), .int 0, .ref (am 51), .int 0, .ref (am 53), .ref (am 54), .int 1, .int 0, .ref (am 57), .long 0, .ref (am 59), .ref (am 60), .long 0, .int 0, .int 0, .int 0, .int 0, .int 0, .int 0, .ref (am 68), .int 0, .int 0, .ref (am 71), .ref (am 72), .ref (am 73), .ref (am 74), .ref (am 75), .ref (am 76), .ref (am 77), .ref (am 78)])), (am 22, .inl (cs 22, 6, .inl (upd (fs 22) (0 : Int32).toNatClampNeg p0)))] H := hP
    have hD : va_D A [(h0, .inr (12, [.int 0, .int 0, .ref (am 2), .ref (am 3), .ref (am 4), .int 0, .ref (am 6), .ref (am 7), .ref (am 8), .int 0, .ref (am 10), .ref (am 11), .ref (am 12), .ref (am 13), .ref (am 14), .ref (am 15), .int 0, .ref (am 17), .ref (am 18), .ref (am 19), .ref (am 20), .int 0, .ref (am 22), .int 0, .ref (am 24), .ref (am 25), .ref (am 26), .ref (am 27), .ref (am 28), .ref (am 29), .int 0, .ref (am 31), .ref (am 32), .ref (am 33), .int 0, .ref (am 35), .int 0, .ref (am 37), .ref (am 38), .ref (am 39), .ref (am 40), .ref (am 41), .ref (am 42), .ref (am 43), .int 0, .ref (am 45), .ref (am 46), .ref (am 47), .int 0, .ref (am 49), .int 0, .ref (am 51), .int 0, .ref (am 53), .ref (am 54), .int 1, .int 0, .ref (am 57), .long 0, .ref (am 59), .ref (am 60), .long 0, .int 0, .int 0, .int 0, .int 0, .int 0, .int 0, .ref (am 68), .int 0, .int 0, .ref (am 71), .ref (am 72), .ref (am 73), .ref (am 74), .ref (am 75), .ref (am 76), .ref (am 77), .ref (am 78)])), (am 22, .inl (cs 22, 6, .inl (upd (fs 22) (0 : Int32).toNatClampNeg p0)))] := hD
    refine lv_aload_n hx hb dX12_hearer_32 rfl (lv_at hl 0 rfl) ?_
    refine lv_dup hx hb dX12_hearer_33 rfl ?_
    refine va_get (D := (dC, dI)) (ci := 12) (v := .int 0) (C := RX12) (T := TX12) (N := 79) hx hb hts (by decide +kernel) hown hK hP 0 rfl rfl 23 (by decide) (hts (.fieldLink RX12 246 "RedTentModel" "hearers" "I") (by decide +kernel)) (fun _ h9 => h9) rfl dX12_hearer_34 ?_
    refine lv_iconst (v := 1) hx hb dX12_hearer_37 (by decide) ?_
    refine lv_iadd hx hb dX12_hearer_38 ?_
    refine lv_topi (fun y_3 ey_3 => ?_)
    obtain rfl : y_3 = 1 := ey_3.trans (by decide)
    refine va_put (D := (dC, dI)) (ci := 12) (v := .int 1) (ty := .int) (C := RX12) (T := TX12) (N := 79) hx hb hts (by decide +kernel) tyX12 tyX12_ok nmX12 hown hK hP hD hS 0 rfl rfl 23 (by decide) (hts (.fieldLink RX12 246 "RedTentModel" "hearers" "I") (by decide +kernel)) (fun _ h9 => h9) rfl (by decide +kernel) rfl rfl (Nat.le_of_ble_eq_true rfl) dX12_hearer_39 (fun H locs hP hD hS => ?_)
    have hP : va_P (dC, dI) vwCl [(h0, .inr (12, [.int 0, .int 0, .ref (am 2), .ref (am 3), .ref (am 4), .int 0, .ref (am 6), .ref (am 7), .ref (am 8), .int 0, .ref (am 10), .ref (am 11), .ref (am 12), .ref (am 13), .ref (am 14), .ref (am 15), .int 0, .ref (am 17), .ref (am 18), .ref (am 19), .ref (am 20), .int 0, .ref (am 22), .int 1, .ref (am 24), .ref (am 25), .ref (am 26), .ref (am 27), .ref (am 28), .ref (am 29), .int 0, .ref (am 31), .ref (am 32), .ref (am 33), .int 0, .ref (am 35), .int 0, .ref (am 37), .ref (am 38), .ref (am 39), .ref (am 40), .ref (am 41), .ref (am 42), .ref (am 43), .int 0, .ref (am 45), .ref (am 46), .ref (am 47), .int 0, .ref (am 49), .int 0, .ref (am 51), .int 0, .ref (am 53), .ref (am 54), .int 1, .int 0, .ref (am 57), .long 0, .ref (am 59), .ref (am 60), .long 0, .int 0, .int 0, .int 0, .int 0, .int 0, .int 0, .ref (am 68), .int 0, .int 0, .ref (am 71), .ref (am 72), .ref (am 73), .ref (am 74), .ref (am 75), .ref (am 76), .ref (am 77), .ref (am 78)])), (am 22, .inl (cs 22, 6, .inl (upd (fs 22) (0 : Int32).toNatClampNeg p0)))] H := hP
    have hD : va_D A [(h0, .inr (12, [.int 0, .int 0, .ref (am 2), .ref (am 3), .ref (am 4), .int 0, .ref (am 6), .ref (am 7), .ref (am 8), .int 0, .ref (am 10), .ref (am 11), .ref (am 12), .ref (am 13), .ref (am 14), .ref (am 15), .int 0, .ref (am 17), .ref (am 18), .ref (am 19), .ref (am 20), .int 0, .ref (am 22), .int 1, .ref (am 24), .ref (am 25), .ref (am 26), .ref (am 27), .ref (am 28), .ref (am 29), .int 0, .ref (am 31), .ref (am 32), .ref (am 33), .int 0, .ref (am 35), .int 0, .ref (am 37), .ref (am 38), .ref (am 39), .ref (am 40), .ref (am 41), .ref (am 42), .ref (am 43), .int 0, .ref (am 45), .ref (am 46), .ref (am 47), .int 0, .ref (am 49), .int 0, .ref (am 51), .int 0, .ref (am 53), .ref (am 54), .int 1, .int 0, .ref (am 57), .long 0, .ref (am 59), .ref (am 60), .long 0, .int 0, .int 0, .int 0, .int 0, .int 0, .int 0, .ref (am 68), .int 0, .int 0, .ref (am 71), .ref (am 72), .ref (am 73), .ref (am 74), .ref (am 75), .ref (am 76), .ref (am 77), .ref (am 78)])), (am 22, .inl (cs 22, 6, .inl (upd (fs 22) (0 : Int32).toNatClampNeg p0)))] := hD
    refine lv_aload_n hx hb dX12_hearer_42 rfl (lv_at hl 0 rfl) ?_
    refine va_get (D := (dC, dI)) (ci := 12) (v := .int 1) (C := RX12) (T := TX12) (N := 79) hx hb hts (by decide +kernel) hown hK hP 0 rfl rfl 23 (by decide) (hts (.fieldLink RX12 246 "RedTentModel" "hearers" "I") (by decide +kernel)) (fun _ h9 => h9) rfl dX12_hearer_43 ?_
    refine lv_iconst (v := 1) hx hb dX12_hearer_46 (by decide) ?_
    refine lv_isub hx hb dX12_hearer_47 ?_
    refine lv_topi (fun y_4 ey_4 => ?_)
    obtain rfl : y_4 = 0 := ey_4.trans (by decide)
    have hpost : ((0 ≤ p0 ∧ p0 ≤ 63) ∧ (0 : Int32) = 0) ∨ ((¬ (0 ≤ p0 ∧ p0 ≤ 63)) ∧ (0 : Int32) = (-2)) := by
      try simp only [fa_lt, fa_le, fa_eq, fa_lt64, fa_le64, fa_eq64, Int32.reduceToInt, Int64.reduceToInt, zi_ite] at b_2
      first
      | exact Or.inl ⟨by (try simp only [fa_lt, fa_le, fa_eq, fa_lt64, fa_le64, fa_eq64, Int32.reduceToInt, Int64.reduceToInt, zi_ite]); omega, rfl⟩
      | exact Or.inr (⟨by (try simp only [fa_lt, fa_le, fa_eq, fa_lt64, fa_le64, fa_eq64, Int32.reduceToInt, Int64.reduceToInt, zi_ite]); omega, rfl⟩)
    refine W.widen (k := 0) (n := 0) (by decide +kernel) (by decide +kernel) ?_
    exact W.iret (v := 0) hx hb hr (fun t ht hW => ⟨⟨0, (), rfl, hpost, trivial⟩, hS.F ht⟩) hS.2.2 dX12_hearer_48
  · refine lv_if_ne (tgt := 10) hx hb dX12_hearer_4 (by decide) (fun c9 => absurd (by decide) c9) (fun _ => ?_)
    refine lv_bipush (v := (-2)) hx hb dX12_hearer_7 (by decide) ?_
    have hpost : ((0 ≤ p0 ∧ p0 ≤ 63) ∧ ((-2) : Int32) = 0) ∨ ((¬ (0 ≤ p0 ∧ p0 ≤ 63)) ∧ ((-2) : Int32) = (-2)) := by
      try simp only [fa_lt, fa_le, fa_eq, fa_lt64, fa_le64, fa_eq64, Int32.reduceToInt, Int64.reduceToInt, zi_ite] at b_2
      first
      | exact Or.inl ⟨by (try simp only [fa_lt, fa_le, fa_eq, fa_lt64, fa_le64, fa_eq64, Int32.reduceToInt, Int64.reduceToInt, zi_ite]); omega, rfl⟩
      | exact Or.inr (⟨by (try simp only [fa_lt, fa_le, fa_eq, fa_lt64, fa_le64, fa_eq64, Int32.reduceToInt, Int64.reduceToInt, zi_ite]); omega, rfl⟩)
    refine W.widen (k := 0) (n := 0) (by decide +kernel) (by decide +kernel) ?_
    exact W.iret (v := (-2)) hx hb hr (fun t ht hW => ⟨⟨(-2), (), rfl, hpost, trivial⟩, hS.F ht⟩) hS.2.2 dX12_hearer_9
set_option maxHeartbeats 1000000 in
set_option maxRecDepth 100000 in
theorem rt_X12_wave (l : Launch) (dC : Nat → ClassId) (dI : Nat → Nat → Nat) (sz : Nat) (h0 : Nat) (am : Nat → Nat) (cs : Nat → ClassId) (p0 p1 p2 p3 : Int32) : Met l yX12_wave wsX12_wave ({ frames := 2, cells := 0, slots := 0, locals := 42 }) (va_Pc [.ref h0, .int p0, .int p1, .int p2, .int p3] (fun U => U.heap.size = sz ∧ va_P (dC, dI) vwCl [(h0, .inr (12, [.int 0, .int 0, .ref (am 2), .ref (am 3), .ref (am 4), .int 0, .ref (am 6), .ref (am 7), .ref (am 8), .int 0, .ref (am 10), .ref (am 11), .ref (am 12), .ref (am 13), .ref (am 14), .ref (am 15), .int 0, .ref (am 17), .ref (am 18), .ref (am 19), .ref (am 20), .int 0, .ref (am 22), .int 0, .ref (am 24), .ref (am 25), .ref (am 26), .ref (am 27), .ref (am 28), .ref (am 29), .int 0, .ref (am 31), .ref (am 32), .ref (am 33), .int 0, .ref (am 35), .int 0, .ref (am 37), .ref (am 38), .ref (am 39), .ref (am 40), .ref (am 41), .ref (am 42), .ref (am 43), .int 0, .ref (am 45), .ref (am 46), .ref (am 47), .int 0, .ref (am 49), .int 0, .ref (am 51), .int 0, .ref (am 53), .ref (am 54), .int 1, .int 0, .ref (am 57), .long 0, .ref (am 59), .ref (am 60), .long 0, .int 0, .int 0, .int 0, .int 0, .int 0, .int 0, .ref (am 68), .int 0, .int 0, .ref (am 71), .ref (am 72), .ref (am 73), .ref (am 74), .ref (am 75), .ref (am 76), .ref (am 77), .ref (am 78)])), (am 24, .inl (cs 24, 8, .inl (fun _ => (0 : Int32)))), (am 25, .inl (cs 25, 8, .inl (fun _ => (0 : Int32))))] U.heap ∧ va_K (dC, dI) vwCl [(cs 24, .int), (cs 25, .int)] U ∧ va_D (fun _ => True) [(h0, .inr (12, [.int 0, .int 0, .ref (am 2), .ref (am 3), .ref (am 4), .int 0, .ref (am 6), .ref (am 7), .ref (am 8), .int 0, .ref (am 10), .ref (am 11), .ref (am 12), .ref (am 13), .ref (am 14), .ref (am 15), .int 0, .ref (am 17), .ref (am 18), .ref (am 19), .ref (am 20), .int 0, .ref (am 22), .int 0, .ref (am 24), .ref (am 25), .ref (am 26), .ref (am 27), .ref (am 28), .ref (am 29), .int 0, .ref (am 31), .ref (am 32), .ref (am 33), .int 0, .ref (am 35), .int 0, .ref (am 37), .ref (am 38), .ref (am 39), .ref (am 40), .ref (am 41), .ref (am 42), .ref (am 43), .int 0, .ref (am 45), .ref (am 46), .ref (am 47), .int 0, .ref (am 49), .int 0, .ref (am 51), .int 0, .ref (am 53), .ref (am 54), .int 1, .int 0, .ref (am 57), .long 0, .ref (am 59), .ref (am 60), .long 0, .int 0, .int 0, .int 0, .int 0, .int 0, .int 0, .ref (am 68), .int 0, .int 0, .ref (am 71), .ref (am 72), .ref (am 73), .ref (am 74), .ref (am 75), .ref (am 76), .ref (am 77), .ref (am 78)])), (am 24, .inl (cs 24, 8, .inl (fun _ => (0 : Int32)))), (am 25, .inl (cs 25, 8, .inl (fun _ => (0 : Int32))))])) (va_Qi (fun (r : Int32) (u : Unit) => match u with | () => ((0 ≤ p0 ∧ p0 ≤ 3 ∧ 0 ≤ p1 ∧ p1 ≤ 1 ∧ 0 ≤ p2 ∧ p2 ≤ 9 ∧ p2 ≤ p3 ∧ p3 ≤ 9) ∧ r = 0) ∨ ((¬ (0 ≤ p0 ∧ p0 ≤ 3 ∧ 0 ≤ p1 ∧ p1 ≤ 1 ∧ 0 ≤ p2 ∧ p2 ≤ 9 ∧ p2 ≤ p3 ∧ p3 ≤ 9)) ∧ r = (-2))) (fun (u : Unit) (t : State) => match u with | () => True) (va_A [(h0, .inr (12, [.int 0, .int 0, .ref (am 2), .ref (am 3), .ref (am 4), .int 0, .ref (am 6), .ref (am 7), .ref (am 8), .int 0, .ref (am 10), .ref (am 11), .ref (am 12), .ref (am 13), .ref (am 14), .ref (am 15), .int 0, .ref (am 17), .ref (am 18), .ref (am 19), .ref (am 20), .int 0, .ref (am 22), .int 0, .ref (am 24), .ref (am 25), .ref (am 26), .ref (am 27), .ref (am 28), .ref (am 29), .int 0, .ref (am 31), .ref (am 32), .ref (am 33), .int 0, .ref (am 35), .int 0, .ref (am 37), .ref (am 38), .ref (am 39), .ref (am 40), .ref (am 41), .ref (am 42), .ref (am 43), .int 0, .ref (am 45), .ref (am 46), .ref (am 47), .int 0, .ref (am 49), .int 0, .ref (am 51), .int 0, .ref (am 53), .ref (am 54), .int 1, .int 0, .ref (am 57), .long 0, .ref (am 59), .ref (am 60), .long 0, .int 0, .int 0, .int 0, .int 0, .int 0, .int 0, .ref (am 68), .int 0, .int 0, .ref (am 71), .ref (am 72), .ref (am 73), .ref (am 74), .ref (am 75), .ref (am 76), .ref (am 77), .ref (am 78)])), (am 24, .inl (cs 24, 8, .inl (fun _ => (0 : Int32)))), (am 25, .inl (cs 25, 8, .inl (fun _ => (0 : Int32))))] sz)) 0 0 (va_A [(h0, .inr (12, [.int 0, .int 0, .ref (am 2), .ref (am 3), .ref (am 4), .int 0, .ref (am 6), .ref (am 7), .ref (am 8), .int 0, .ref (am 10), .ref (am 11), .ref (am 12), .ref (am 13), .ref (am 14), .ref (am 15), .int 0, .ref (am 17), .ref (am 18), .ref (am 19), .ref (am 20), .int 0, .ref (am 22), .int 0, .ref (am 24), .ref (am 25), .ref (am 26), .ref (am 27), .ref (am 28), .ref (am 29), .int 0, .ref (am 31), .ref (am 32), .ref (am 33), .int 0, .ref (am 35), .int 0, .ref (am 37), .ref (am 38), .ref (am 39), .ref (am 40), .ref (am 41), .ref (am 42), .ref (am 43), .int 0, .ref (am 45), .ref (am 46), .ref (am 47), .int 0, .ref (am 49), .int 0, .ref (am 51), .int 0, .ref (am 53), .ref (am 54), .int 1, .int 0, .ref (am 57), .long 0, .ref (am 59), .ref (am 60), .long 0, .int 0, .int 0, .int 0, .int 0, .int 0, .int 0, .ref (am 68), .int 0, .int 0, .ref (am 71), .ref (am 72), .ref (am 73), .ref (am 74), .ref (am 75), .ref (am 76), .ref (am 77), .ref (am 78)])), (am 24, .inl (cs 24, 8, .inl (fun _ => (0 : Int32)))), (am 25, .inl (cs 25, 8, .inl (fun _ => (0 : Int32))))] sz) := by
  refine Met.ofW (cc := cX12_wave) (maxL := 7) (ret := (some .int)) (by decide) rfl ?_
  intro p e s m args below meth c s₁ B hml hv
  obtain ⟨rfl, hsz, hP, hK, hD0⟩ := hv
  have hx := B.exec
  have hb := B.bytes
  have hr := B.returns
  have hts := atoms_spec (ws := wsX12_wave) B.pre
  have hown : s.vm.findClass RX12 = some m.cls := findClass_of_methodNamed B.named
  have hlocks := B.notSynchronized
  subst hsz
  have hD := hD0.self (sz := s.heap.size)
  generalize hAe : va_A [(h0, .inr (12, [.int 0, .int 0, .ref (am 2), .ref (am 3), .ref (am 4), .int 0, .ref (am 6), .ref (am 7), .ref (am 8), .int 0, .ref (am 10), .ref (am 11), .ref (am 12), .ref (am 13), .ref (am 14), .ref (am 15), .int 0, .ref (am 17), .ref (am 18), .ref (am 19), .ref (am 20), .int 0, .ref (am 22), .int 0, .ref (am 24), .ref (am 25), .ref (am 26), .ref (am 27), .ref (am 28), .ref (am 29), .int 0, .ref (am 31), .ref (am 32), .ref (am 33), .int 0, .ref (am 35), .int 0, .ref (am 37), .ref (am 38), .ref (am 39), .ref (am 40), .ref (am 41), .ref (am 42), .ref (am 43), .int 0, .ref (am 45), .ref (am 46), .ref (am 47), .int 0, .ref (am 49), .int 0, .ref (am 51), .int 0, .ref (am 53), .ref (am 54), .int 1, .int 0, .ref (am 57), .long 0, .ref (am 59), .ref (am 60), .long 0, .int 0, .int 0, .int 0, .int 0, .int 0, .int 0, .ref (am 68), .int 0, .int 0, .ref (am 71), .ref (am 72), .ref (am 73), .ref (am 74), .ref (am 75), .ref (am 76), .ref (am 77), .ref (am 78)])), (am 24, .inl (cs 24, 8, .inl (fun _ => (0 : Int32)))), (am 25, .inl (cs 25, 8, .inl (fun _ => (0 : Int32))))] s.heap.size = A at hD  ⊢
  have hA : ∀ q : Nat, s.heap.size ≤ q → A q := fun q h => by rw [← hAe]; exact Or.inr h
  have hS : va_S A s.heap s.heap [] := va_S.rf
  have hl := lv_entry ([.ref h0, .int p0, .int p1, .int p2, .int p3]) (n := 7) (Nat.le_of_ble_eq_true rfl)
  rw [lg_entry_eq]
  generalize (lg_sl ([.ref h0, .int p0, .int p1, .int p2, .int p3]) ++ List.replicate (7 - (lg_sl ([.ref h0, .int p0, .int p1, .int p2, .int p3])).length) Slot.unset).toArray = ls at hl ⊢
  have hl : lv_has ls 7 [(0, .ref h0), (1, .int p0), (2, .int p1), (3, .int p2), (4, .int p3)] := hl
  refine lv_iload_n hx hb dX12_wave_0 rfl (lv_at hl 1 rfl) ?_
  refine vp_callSi (va_Run.run (va_runS (As := [.int p0]) (rest := []) ⟨hx, hb, hml, hown, hts⟩ (rt_X12_isWave l p0) (va_cwS 1 hts gX12_wave_X12_isWave rfl rfl rfl (by decide +kernel) ⟨Nat.le_of_ble_eq_true rfl, Nat.le_of_ble_eq_true rfl⟩) ⟨fun a U g mk q => q, fun U hU hW => ⟨rfl, trivial⟩⟩ rfl rfl hl.1 rfl (lv_room (Nat.le_of_ble_eq_true rfl)) dX12_wave_1 ⟨by decide +kernel, by decide +kernel⟩)) (fun r_1 hr_1 => ?_)
  rcases hr_1 with ⟨b_2, rfl⟩ | ⟨b_2, rfl⟩
  · refine lv_if_eq (tgt := 37) hx hb dX12_wave_4 (by decide) (fun c9 => absurd c9 (by decide)) (fun _ => ?_)
    refine lv_iload_n hx hb dX12_wave_7 rfl (lv_at hl 2 rfl) ?_
    refine lv_iconst (v := 0) hx hb dX12_wave_8 (by decide) ?_
    refine lv_iconst (v := 1) hx hb dX12_wave_9 (by decide) ?_
    refine vp_callSi (va_Run.run (va_runS (As := [.int p1, .int 0, .int 1]) (rest := []) ⟨hx, hb, hml, hown, hts⟩ (rt_X12_within l p1 0 1) (va_cwS 3 hts gX12_wave_X12_within rfl rfl rfl (by decide +kernel) ⟨Nat.le_of_ble_eq_true rfl, Nat.le_of_ble_eq_true rfl⟩) ⟨fun a U g mk q => q, fun U hU hW => ⟨rfl, trivial⟩⟩ rfl rfl hl.1 rfl (lv_room (Nat.le_of_ble_eq_true rfl)) dX12_wave_10 ⟨by decide +kernel, by decide +kernel⟩)) (fun r_3 hr_3 => ?_)
    rcases hr_3 with ⟨b_4, rfl⟩ | ⟨b_4, rfl⟩
    · refine lv_if_eq (tgt := 37) hx hb dX12_wave_13 (by decide) (fun c9 => absurd c9 (by decide)) (fun _ => ?_)
      refine lv_iload_n hx hb dX12_wave_16 rfl (lv_at hl 3 rfl) ?_
      refine lv_iconst (v := 0) hx hb dX12_wave_17 (by decide) ?_
      refine lv_bipush (v := 9) hx hb dX12_wave_18 (by decide) ?_
      refine vp_callSi (va_Run.run (va_runS (As := [.int p2, .int 0, .int 9]) (rest := []) ⟨hx, hb, hml, hown, hts⟩ (rt_X12_within l p2 0 9) (va_cwS 3 hts gX12_wave_X12_within rfl rfl rfl (by decide +kernel) ⟨Nat.le_of_ble_eq_true rfl, Nat.le_of_ble_eq_true rfl⟩) ⟨fun a U g mk q => q, fun U hU hW => ⟨rfl, trivial⟩⟩ rfl rfl hl.1 rfl (lv_room (Nat.le_of_ble_eq_true rfl)) dX12_wave_20 ⟨by decide +kernel, by decide +kernel⟩)) (fun r_5 hr_5 => ?_)
      rcases hr_5 with ⟨b_6, rfl⟩ | ⟨b_6, rfl⟩
      · refine lv_if_eq (tgt := 37) hx hb dX12_wave_23 (by decide) (fun c9 => absurd c9 (by decide)) (fun _ => ?_)
        refine lv_iload hx hb dX12_wave_26 (lv_at hl 4 rfl) ?_
        refine lv_iload_n hx hb dX12_wave_28 rfl (lv_at hl 3 rfl) ?_
        refine lv_bipush (v := 9) hx hb dX12_wave_29 (by decide) ?_
        refine vp_callSi (va_Run.run (va_runS (As := [.int p3, .int p2, .int 9]) (rest := []) ⟨hx, hb, hml, hown, hts⟩ (rt_X12_within l p3 p2 9) (va_cwS 3 hts gX12_wave_X12_within rfl rfl rfl (by decide +kernel) ⟨Nat.le_of_ble_eq_true rfl, Nat.le_of_ble_eq_true rfl⟩) ⟨fun a U g mk q => q, fun U hU hW => ⟨rfl, trivial⟩⟩ rfl rfl hl.1 rfl (lv_room (Nat.le_of_ble_eq_true rfl)) dX12_wave_31 ⟨by decide +kernel, by decide +kernel⟩)) (fun r_7 hr_7 => ?_)
        rcases hr_7 with ⟨b_8, rfl⟩ | ⟨b_8, rfl⟩
        · refine lv_if_ne (tgt := 40) hx hb dX12_wave_34 (by decide) (fun _ => ?_) (fun c9 => absurd c9 (by decide))
          refine lv_iconst (v := 2) hx hb dX12_wave_40 (by decide) ?_
          refine lv_iload_n hx hb dX12_wave_41 rfl (lv_at hl 1 rfl) ?_
          refine lv_imul hx hb dX12_wave_42 ?_
          refine lv_topi (fun y_9 ey_9 => ?_)
          have ty_9 : y_9.toInt = 2 * p0.toInt := by
            try simp only [fa_lt, fa_le, fa_eq, fa_lt64, fa_le64, fa_eq64, Int32.reduceToInt, Int64.reduceToInt, zi_ite] at b_2
            try simp only [fa_lt, fa_le, fa_eq, fa_lt64, fa_le64, fa_eq64, Int32.reduceToInt, Int64.reduceToInt, zi_ite] at b_4
            try simp only [fa_lt, fa_le, fa_eq, fa_lt64, fa_le64, fa_eq64, Int32.reduceToInt, Int64.reduceToInt, zi_ite] at b_6
            try simp only [fa_lt, fa_le, fa_eq, fa_lt64, fa_le64, fa_eq64, Int32.reduceToInt, Int64.reduceToInt, zi_ite] at b_8
            rw [ey_9]; exact (zi_mul _ _ (by (try simp only [Int32.reduceToInt]) <;> omega) (by (try simp only [Int32.reduceToInt]) <;> omega))
          refine lv_iload_n hx hb dX12_wave_43 rfl (lv_at hl 2 rfl) ?_
          refine lv_iadd hx hb dX12_wave_44 ?_
          refine lv_topi (fun y_10 ey_10 => ?_)
          have ty_10 : y_10.toInt = y_9.toInt + p1.toInt := by
            try simp only [fa_lt, fa_le, fa_eq, fa_lt64, fa_le64, fa_eq64, Int32.reduceToInt, Int64.reduceToInt, zi_ite] at b_2
            try simp only [fa_lt, fa_le, fa_eq, fa_lt64, fa_le64, fa_eq64, Int32.reduceToInt, Int64.reduceToInt, zi_ite] at b_4
            try simp only [fa_lt, fa_le, fa_eq, fa_lt64, fa_le64, fa_eq64, Int32.reduceToInt, Int64.reduceToInt, zi_ite] at b_6
            try simp only [fa_lt, fa_le, fa_eq, fa_lt64, fa_le64, fa_eq64, Int32.reduceToInt, Int64.reduceToInt, zi_ite] at b_8
            try simp only [fa_lt, fa_le, fa_eq, fa_lt64, fa_le64, fa_eq64, Int32.reduceToInt, Int64.reduceToInt, zi_ite] at ty_9
            rw [ey_10]; exact (zi_add _ _ (by (try simp only [Int32.reduceToInt]) <;> omega) (by (try simp only [Int32.reduceToInt]) <;> omega))
          refine lv_istore (lv' := [(5, .int y_10), (0, .ref h0), (1, .int p0), (2, .int p1), (3, .int p2), (4, .int p3)]) hx hb dX12_wave_45 hl (by decide) rfl (fun ls hl => ?_)
          refine lv_bipush (v := 10) hx hb dX12_wave_47 (by decide) ?_
          refine lv_aload_n hx hb dX12_wave_49 rfl (lv_at hl 1 rfl) ?_
          refine va_get (D := (dC, dI)) (ci := 12) (v := .ref (am 24)) (C := RX12) (T := TX12) (N := 79) hx hb hts (by decide +kernel) hown hK hP 0 rfl rfl 24 (by decide) (hts (.fieldLink RX12 62 "RedTentModel" "waveFrom" "[I") (by decide +kernel)) (fun _ h9 => h9) rfl dX12_wave_50 ?_
          refine lv_iload hx hb dX12_wave_53 (lv_at hl 0 rfl) ?_
          refine va_iald hx hb hK hP 1 0 rfl rfl (vp_in_iff.mpr (by (try simp only [fa_lt, fa_le, fa_eq, fa_lt64, fa_le64, fa_eq64, Int32.reduceToInt, Int64.reduceToInt, zi_ite] at b_2 b_4 b_6 b_8 ty_9 ty_10 ⊢) <;> omega)) dX12_wave_55 ?_
          refine lv_topi (fun y_11 ey_11 => ?_)
          obtain rfl : y_11 = 0 := ey_11
          refine lv_imul hx hb dX12_wave_56 ?_
          refine lv_topi (fun y_12 ey_12 => ?_)
          obtain rfl : y_12 = 0 := ey_12.trans (by decide)
          refine lv_aload_n hx hb dX12_wave_57 rfl (lv_at hl 1 rfl) ?_
          refine va_get (D := (dC, dI)) (ci := 12) (v := .ref (am 25)) (C := RX12) (T := TX12) (N := 79) hx hb hts (by decide +kernel) hown hK hP 0 rfl rfl 25 (by decide) (hts (.fieldLink RX12 65 "RedTentModel" "waveTo" "[I") (by decide +kernel)) (fun _ h9 => h9) rfl dX12_wave_58 ?_
          refine lv_iload hx hb dX12_wave_61 (lv_at hl 0 rfl) ?_
          refine va_iald hx hb hK hP 2 1 rfl rfl (vp_in_iff.mpr (by (try simp only [fa_lt, fa_le, fa_eq, fa_lt64, fa_le64, fa_eq64, Int32.reduceToInt, Int64.reduceToInt, zi_ite] at b_2 b_4 b_6 b_8 ty_9 ty_10 ⊢) <;> omega)) dX12_wave_63 ?_
          refine lv_topi (fun y_13 ey_13 => ?_)
          obtain rfl : y_13 = 0 := ey_13
          refine lv_iadd hx hb dX12_wave_64 ?_
          refine lv_topi (fun y_14 ey_14 => ?_)
          obtain rfl : y_14 = 0 := ey_14.trans (by decide)
          refine lv_istore (lv' := [(6, .int 0), (5, .int y_10), (0, .ref h0), (1, .int p0), (2, .int p1), (3, .int p2), (4, .int p3)]) hx hb dX12_wave_65 hl (by decide) rfl (fun ls hl => ?_)
          refine lv_aload_n hx hb dX12_wave_67 rfl (lv_at hl 2 rfl) ?_
          refine va_get (D := (dC, dI)) (ci := 12) (v := .ref (am 24)) (C := RX12) (T := TX12) (N := 79) hx hb hts (by decide +kernel) hown hK hP 0 rfl rfl 24 (by decide) (hts (.fieldLink RX12 62 "RedTentModel" "waveFrom" "[I") (by decide +kernel)) (fun _ h9 => h9) rfl dX12_wave_68 ?_
          refine lv_iload hx hb dX12_wave_71 (lv_at hl 1 rfl) ?_
          refine lv_iload_n hx hb dX12_wave_73 rfl (lv_at hl 5 rfl) ?_
          refine va_iast hx hb hK hP hD hS 1 0 rfl rfl (vp_in_iff.mpr (by (try simp only [fa_lt, fa_le, fa_eq, fa_lt64, fa_le64, fa_eq64, Int32.reduceToInt, Int64.reduceToInt, zi_ite] at b_2 b_4 b_6 b_8 ty_9 ty_10 ⊢) <;> omega)) dX12_wave_74 (fun H locs hP hD hS => ?_)
          have hP : va_P (dC, dI) vwCl [(h0, .inr (12, [.int 0, .int 0, .ref (am 2), .ref (am 3), .ref (am 4), .int 0, .ref (am 6), .ref (am 7), .ref (am 8), .int 0, .ref (am 10), .ref (am 11), .ref (am 12), .ref (am 13), .ref (am 14), .ref (am 15), .int 0, .ref (am 17), .ref (am 18), .ref (am 19), .ref (am 20), .int 0, .ref (am 22), .int 0, .ref (am 24), .ref (am 25), .ref (am 26), .ref (am 27), .ref (am 28), .ref (am 29), .int 0, .ref (am 31), .ref (am 32), .ref (am 33), .int 0, .ref (am 35), .int 0, .ref (am 37), .ref (am 38), .ref (am 39), .ref (am 40), .ref (am 41), .ref (am 42), .ref (am 43), .int 0, .ref (am 45), .ref (am 46), .ref (am 47), .int 0, .ref (am 49), .int 0, .ref (am 51), .int 0, .ref (am 53), .ref (am 54), .int 1, .int 0, .ref (am 57), .long 0, .ref (am 59), .ref (am 60), .long 0, .int 0, .int 0, .int 0, .int 0, .int 0, .int 0, .ref (am 68), .int 0, .int 0, .ref (am 71), .ref (am 72), .ref (am 73), .ref (am 74), .ref (am 75), .ref (am 76), .ref (am 77), .ref (am 78)])), (am 24, .inl (cs 24, 8, .inl (upd (fun _ => (0 : Int32)) y_10.toNatClampNeg p2))), (am 25, .inl (cs 25, 8, .inl (fun _ => (0 : Int32))))] H := hP
          have hD : va_D A [(h0, .inr (12, [.int 0, .int 0, .ref (am 2), .ref (am 3), .ref (am 4), .int 0, .ref (am 6), .ref (am 7), .ref (am 8), .int 0, .ref (am 10), .ref (am 11), .ref (am 12), .ref (am 13), .ref (am 14), .ref (am 15), .int 0, .ref (am 17), .ref (am 18), .ref (am 19), .ref (am 20), .int 0, .ref (am 22), .int 0, .ref (am 24), .ref (am 25), .ref (am 26), .ref (am 27), .ref (am 28), .ref (am 29), .int 0, .ref (am 31), .ref (am 32), .ref (am 33), .int 0, .ref (am 35), .int 0, .ref (am 37), .ref (am 38), .ref (am 39), .ref (am 40), .ref (am 41), .ref (am 42), .ref (am 43), .int 0, .ref (am 45), .ref (am 46), .ref (am 47), .int 0, .ref (am 49), .int 0, .ref (am 51), .int 0, .ref (am 53), .ref (am 54), .int 1, .int 0, .ref (am 57), .long 0, .ref (am 59), .ref (am 60), .long 0, .int 0, .int 0, .int 0, .int 0, .int 0, .int 0, .ref (am 68), .int 0, .int 0, .ref (am 71), .ref (am 72), .ref (am 73), .ref (am 74), .ref (am 75), .ref (am 76), .ref (am 77), .ref (am 78)])), (am 24, .inl (cs 24, 8, .inl (upd (fun _ => (0 : Int32)) y_10.toNatClampNeg p2))), (am 25, .inl (cs 25, 8, .inl (fun _ => (0 : Int32))))] := hD
          refine lv_aload_n hx hb dX12_wave_75 rfl (lv_at hl 2 rfl) ?_
          refine va_get (D := (dC, dI)) (ci := 12) (v := .ref (am 25)) (C := RX12) (T := TX12) (N := 79) hx hb hts (by decide +kernel) hown hK hP 0 rfl rfl 25 (by decide) (hts (.fieldLink RX12 65 "RedTentModel" "waveTo" "[I") (by decide +kernel)) (fun _ h9 => h9) rfl dX12_wave_76 ?_
          refine lv_iload hx hb dX12_wave_79 (lv_at hl 1 rfl) ?_
          refine lv_iload hx hb dX12_wave_81 (lv_at hl 6 rfl) ?_
          refine va_iast hx hb hK hP hD hS 2 1 rfl rfl (vp_in_iff.mpr (by (try simp only [fa_lt, fa_le, fa_eq, fa_lt64, fa_le64, fa_eq64, Int32.reduceToInt, Int64.reduceToInt, zi_ite] at b_2 b_4 b_6 b_8 ty_9 ty_10 ⊢) <;> omega)) dX12_wave_83 (fun H locs hP hD hS => ?_)
          have hP : va_P (dC, dI) vwCl [(h0, .inr (12, [.int 0, .int 0, .ref (am 2), .ref (am 3), .ref (am 4), .int 0, .ref (am 6), .ref (am 7), .ref (am 8), .int 0, .ref (am 10), .ref (am 11), .ref (am 12), .ref (am 13), .ref (am 14), .ref (am 15), .int 0, .ref (am 17), .ref (am 18), .ref (am 19), .ref (am 20), .int 0, .ref (am 22), .int 0, .ref (am 24), .ref (am 25), .ref (am 26), .ref (am 27), .ref (am 28), .ref (am 29), .int 0, .ref (am 31), .ref (am 32), .ref (am 33), .int 0, .ref (am 35), .int 0, .ref (am 37), .ref (am 38), .ref (am 39), .ref (am 40), .ref (am 41), .ref (am 42), .ref (am 43), .int 0, .ref (am 45), .ref (am 46), .ref (am 47), .int 0, .ref (am 49), .int 0, .ref (am 51), .int 0, .ref (am 53), .ref (am 54), .int 1, .int 0, .ref (am 57), .long 0, .ref (am 59), .ref (am 60), .long 0, .int 0, .int 0, .int 0, .int 0, .int 0, .int 0, .ref (am 68), .int 0, .int 0, .ref (am 71), .ref (am 72), .ref (am 73), .ref (am 74), .ref (am 75), .ref (am 76), .ref (am 77), .ref (am 78)])), (am 24, .inl (cs 24, 8, .inl (upd (fun _ => (0 : Int32)) y_10.toNatClampNeg p2))), (am 25, .inl (cs 25, 8, .inl (upd (fun _ => (0 : Int32)) y_10.toNatClampNeg p3)))] H := hP
          have hD : va_D A [(h0, .inr (12, [.int 0, .int 0, .ref (am 2), .ref (am 3), .ref (am 4), .int 0, .ref (am 6), .ref (am 7), .ref (am 8), .int 0, .ref (am 10), .ref (am 11), .ref (am 12), .ref (am 13), .ref (am 14), .ref (am 15), .int 0, .ref (am 17), .ref (am 18), .ref (am 19), .ref (am 20), .int 0, .ref (am 22), .int 0, .ref (am 24), .ref (am 25), .ref (am 26), .ref (am 27), .ref (am 28), .ref (am 29), .int 0, .ref (am 31), .ref (am 32), .ref (am 33), .int 0, .ref (am 35), .int 0, .ref (am 37), .ref (am 38), .ref (am 39), .ref (am 40), .ref (am 41), .ref (am 42), .ref (am 43), .int 0, .ref (am 45), .ref (am 46), .ref (am 47), .int 0, .ref (am 49), .int 0, .ref (am 51), .int 0, .ref (am 53), .ref (am 54), .int 1, .int 0, .ref (am 57), .long 0, .ref (am 59), .ref (am 60), .long 0, .int 0, .int 0, .int 0, .int 0, .int 0, .int 0, .ref (am 68), .int 0, .int 0, .ref (am 71), .ref (am 72), .ref (am 73), .ref (am 74), .ref (am 75), .ref (am 76), .ref (am 77), .ref (am 78)])), (am 24, .inl (cs 24, 8, .inl (upd (fun _ => (0 : Int32)) y_10.toNatClampNeg p2))), (am 25, .inl (cs 25, 8, .inl (upd (fun _ => (0 : Int32)) y_10.toNatClampNeg p3)))] := hD
          refine lv_iload hx hb dX12_wave_84 (lv_at hl 0 rfl) ?_
          have hpost : ((0 ≤ p0 ∧ p0 ≤ 3 ∧ 0 ≤ p1 ∧ p1 ≤ 1 ∧ 0 ≤ p2 ∧ p2 ≤ 9 ∧ p2 ≤ p3 ∧ p3 ≤ 9) ∧ (0 : Int32) = 0) ∨ ((¬ (0 ≤ p0 ∧ p0 ≤ 3 ∧ 0 ≤ p1 ∧ p1 ≤ 1 ∧ 0 ≤ p2 ∧ p2 ≤ 9 ∧ p2 ≤ p3 ∧ p3 ≤ 9)) ∧ (0 : Int32) = (-2)) := by
            try simp only [fa_lt, fa_le, fa_eq, fa_lt64, fa_le64, fa_eq64, Int32.reduceToInt, Int64.reduceToInt, zi_ite] at b_2
            try simp only [fa_lt, fa_le, fa_eq, fa_lt64, fa_le64, fa_eq64, Int32.reduceToInt, Int64.reduceToInt, zi_ite] at b_4
            try simp only [fa_lt, fa_le, fa_eq, fa_lt64, fa_le64, fa_eq64, Int32.reduceToInt, Int64.reduceToInt, zi_ite] at b_6
            try simp only [fa_lt, fa_le, fa_eq, fa_lt64, fa_le64, fa_eq64, Int32.reduceToInt, Int64.reduceToInt, zi_ite] at b_8
            try simp only [fa_lt, fa_le, fa_eq, fa_lt64, fa_le64, fa_eq64, Int32.reduceToInt, Int64.reduceToInt, zi_ite] at ty_9
            try simp only [fa_lt, fa_le, fa_eq, fa_lt64, fa_le64, fa_eq64, Int32.reduceToInt, Int64.reduceToInt, zi_ite] at ty_10
            first
            | exact Or.inl ⟨by (try simp only [fa_lt, fa_le, fa_eq, fa_lt64, fa_le64, fa_eq64, Int32.reduceToInt, Int64.reduceToInt, zi_ite]); omega, rfl⟩
            | exact Or.inr (⟨by (try simp only [fa_lt, fa_le, fa_eq, fa_lt64, fa_le64, fa_eq64, Int32.reduceToInt, Int64.reduceToInt, zi_ite]); omega, rfl⟩)
          refine W.widen (k := 0) (n := 0) (by decide +kernel) (by decide +kernel) ?_
          exact W.iret (v := 0) hx hb hr (fun t ht hW => ⟨⟨0, (), rfl, hpost, trivial⟩, hS.F ht⟩) hS.2.2 dX12_wave_86
        · refine lv_if_ne (tgt := 40) hx hb dX12_wave_34 (by decide) (fun c9 => absurd (by decide) c9) (fun _ => ?_)
          refine lv_bipush (v := (-2)) hx hb dX12_wave_37 (by decide) ?_
          have hpost : ((0 ≤ p0 ∧ p0 ≤ 3 ∧ 0 ≤ p1 ∧ p1 ≤ 1 ∧ 0 ≤ p2 ∧ p2 ≤ 9 ∧ p2 ≤ p3 ∧ p3 ≤ 9) ∧ ((-2) : Int32) = 0) ∨ ((¬ (0 ≤ p0 ∧ p0 ≤ 3 ∧ 0 ≤ p1 ∧ p1 ≤ 1 ∧ 0 ≤ p2 ∧ p2 ≤ 9 ∧ p2 ≤ p3 ∧ p3 ≤ 9)) ∧ ((-2) : Int32) = (-2)) := by
            try simp only [fa_lt, fa_le, fa_eq, fa_lt64, fa_le64, fa_eq64, Int32.reduceToInt, Int64.reduceToInt, zi_ite] at b_2
            try simp only [fa_lt, fa_le, fa_eq, fa_lt64, fa_le64, fa_eq64, Int32.reduceToInt, Int64.reduceToInt, zi_ite] at b_4
            try simp only [fa_lt, fa_le, fa_eq, fa_lt64, fa_le64, fa_eq64, Int32.reduceToInt, Int64.reduceToInt, zi_ite] at b_6
            try simp only [fa_lt, fa_le, fa_eq, fa_lt64, fa_le64, fa_eq64, Int32.reduceToInt, Int64.reduceToInt, zi_ite] at b_8
            first
            | exact Or.inl ⟨by (try simp only [fa_lt, fa_le, fa_eq, fa_lt64, fa_le64, fa_eq64, Int32.reduceToInt, Int64.reduceToInt, zi_ite]); omega, rfl⟩
            | exact Or.inr (⟨by (try simp only [fa_lt, fa_le, fa_eq, fa_lt64, fa_le64, fa_eq64, Int32.reduceToInt, Int64.reduceToInt, zi_ite]); omega, rfl⟩)
          refine W.widen (k := 0) (n := 0) (by decide +kernel) (by decide +kernel) ?_
          exact W.iret (v := (-2)) hx hb hr (fun t ht hW => ⟨⟨(-2), (), rfl, hpost, trivial⟩, hS.F ht⟩) hS.2.2 dX12_wave_39
      · refine lv_if_eq (tgt := 37) hx hb dX12_wave_23 (by decide) (fun _ => ?_) (fun c9 => absurd (by decide) c9)
        refine lv_bipush (v := (-2)) hx hb dX12_wave_37 (by decide) ?_
        have hpost : ((0 ≤ p0 ∧ p0 ≤ 3 ∧ 0 ≤ p1 ∧ p1 ≤ 1 ∧ 0 ≤ p2 ∧ p2 ≤ 9 ∧ p2 ≤ p3 ∧ p3 ≤ 9) ∧ ((-2) : Int32) = 0) ∨ ((¬ (0 ≤ p0 ∧ p0 ≤ 3 ∧ 0 ≤ p1 ∧ p1 ≤ 1 ∧ 0 ≤ p2 ∧ p2 ≤ 9 ∧ p2 ≤ p3 ∧ p3 ≤ 9)) ∧ ((-2) : Int32) = (-2)) := by
          try simp only [fa_lt, fa_le, fa_eq, fa_lt64, fa_le64, fa_eq64, Int32.reduceToInt, Int64.reduceToInt, zi_ite] at b_2
          try simp only [fa_lt, fa_le, fa_eq, fa_lt64, fa_le64, fa_eq64, Int32.reduceToInt, Int64.reduceToInt, zi_ite] at b_4
          try simp only [fa_lt, fa_le, fa_eq, fa_lt64, fa_le64, fa_eq64, Int32.reduceToInt, Int64.reduceToInt, zi_ite] at b_6
          first
          | exact Or.inl ⟨by (try simp only [fa_lt, fa_le, fa_eq, fa_lt64, fa_le64, fa_eq64, Int32.reduceToInt, Int64.reduceToInt, zi_ite]); omega, rfl⟩
          | exact Or.inr (⟨by (try simp only [fa_lt, fa_le, fa_eq, fa_lt64, fa_le64, fa_eq64, Int32.reduceToInt, Int64.reduceToInt, zi_ite]); omega, rfl⟩)
        refine W.widen (k := 0) (n := 0) (by decide +kernel) (by decide +kernel) ?_
        exact W.iret (v := (-2)) hx hb hr (fun t ht hW => ⟨⟨(-2), (), rfl, hpost, trivial⟩, hS.F ht⟩) hS.2.2 dX12_wave_39
    · refine lv_if_eq (tgt := 37) hx hb dX12_wave_13 (by decide) (fun _ => ?_) (fun c9 => absurd (by decide) c9)
      refine lv_bipush (v := (-2)) hx hb dX12_wave_37 (by decide) ?_
      have hpost : ((0 ≤ p0 ∧ p0 ≤ 3 ∧ 0 ≤ p1 ∧ p1 ≤ 1 ∧ 0 ≤ p2 ∧ p2 ≤ 9 ∧ p2 ≤ p3 ∧ p3 ≤ 9) ∧ ((-2) : Int32) = 0) ∨ ((¬ (0 ≤ p0 ∧ p0 ≤ 3 ∧ 0 ≤ p1 ∧ p1 ≤ 1 ∧ 0 ≤ p2 ∧ p2 ≤ 9 ∧ p2 ≤ p3 ∧ p3 ≤ 9)) ∧ ((-2) : Int32) = (-2)) := by
        try simp only [fa_lt, fa_le, fa_eq, fa_lt64, fa_le64, fa_eq64, Int32.reduceToInt, Int64.reduceToInt, zi_ite] at b_2
        try simp only [fa_lt, fa_le, fa_eq, fa_lt64, fa_le64, fa_eq64, Int32.reduceToInt, Int64.reduceToInt, zi_ite] at b_4
        first
        | exact Or.inl ⟨by (try simp only [fa_lt, fa_le, fa_eq, fa_lt64, fa_le64, fa_eq64, Int32.reduceToInt, Int64.reduceToInt, zi_ite]); omega, rfl⟩
        | exact Or.inr (⟨by (try simp only [fa_lt, fa_le, fa_eq, fa_lt64, fa_le64, fa_eq64, Int32.reduceToInt, Int64.reduceToInt, zi_ite]); omega, rfl⟩)
      refine W.widen (k := 0) (n := 0) (by decide +kernel) (by decide +kernel) ?_
      exact W.iret (v := (-2)) hx hb hr (fun t ht hW => ⟨⟨(-2), (), rfl, hpost, trivial⟩, hS.F ht⟩) hS.2.2 dX12_wave_39
  · refine lv_if_eq (tgt := 37) hx hb dX12_wave_4 (by decide) (fun _ => ?_) (fun c9 => absurd (by decide) c9)
    refine lv_bipush (v := (-2)) hx hb dX12_wave_37 (by decide) ?_
    have hpost : ((0 ≤ p0 ∧ p0 ≤ 3 ∧ 0 ≤ p1 ∧ p1 ≤ 1 ∧ 0 ≤ p2 ∧ p2 ≤ 9 ∧ p2 ≤ p3 ∧ p3 ≤ 9) ∧ ((-2) : Int32) = 0) ∨ ((¬ (0 ≤ p0 ∧ p0 ≤ 3 ∧ 0 ≤ p1 ∧ p1 ≤ 1 ∧ 0 ≤ p2 ∧ p2 ≤ 9 ∧ p2 ≤ p3 ∧ p3 ≤ 9)) ∧ ((-2) : Int32) = (-2)) := by
      try simp only [fa_lt, fa_le, fa_eq, fa_lt64, fa_le64, fa_eq64, Int32.reduceToInt, Int64.reduceToInt, zi_ite] at b_2
      first
      | exact Or.inl ⟨by (try simp only [fa_lt, fa_le, fa_eq, fa_lt64, fa_le64, fa_eq64, Int32.reduceToInt, Int64.reduceToInt, zi_ite]); omega, rfl⟩
      | exact Or.inr (⟨by (try simp only [fa_lt, fa_le, fa_eq, fa_lt64, fa_le64, fa_eq64, Int32.reduceToInt, Int64.reduceToInt, zi_ite]); omega, rfl⟩)
    refine W.widen (k := 0) (n := 0) (by decide +kernel) (by decide +kernel) ?_
    exact W.iret (v := (-2)) hx hb hr (fun t ht hW => ⟨⟨(-2), (), rfl, hpost, trivial⟩, hS.F ht⟩) hS.2.2 dX12_wave_39
set_option maxHeartbeats 1000000 in
set_option maxRecDepth 100000 in
theorem rt_X12_lane (l : Launch) (dC : Nat → ClassId) (dI : Nat → Nat → Nat) (sz : Nat) (h0 : Nat) (am : Nat → Nat) (cs : Nat → ClassId) (gs : Nat → Nat → Int64) (p0 : Int64) : Met l yX12_lane wsX12_lane ({ frames := 0, cells := 0, slots := 0, locals := 0 }) (va_Pc [.ref h0, .long p0] (fun U => U.heap.size = sz ∧ va_P (dC, dI) vwCl [(h0, .inr (12, [.int 0, .int 0, .ref (am 2), .ref (am 3), .ref (am 4), .int 0, .ref (am 6), .ref (am 7), .ref (am 8), .int 0, .ref (am 10), .ref (am 11), .ref (am 12), .ref (am 13), .ref (am 14), .ref (am 15), .int 0, .ref (am 17), .ref (am 18), .ref (am 19), .ref (am 20), .int 0, .ref (am 22), .int 0, .ref (am 24), .ref (am 25), .ref (am 26), .ref (am 27), .ref (am 28), .ref (am 29), .int 0, .ref (am 31), .ref (am 32), .ref (am 33), .int 0, .ref (am 35), .int 0, .ref (am 37), .ref (am 38), .ref (am 39), .ref (am 40), .ref (am 41), .ref (am 42), .ref (am 43), .int 0, .ref (am 45), .ref (am 46), .ref (am 47), .int 0, .ref (am 49), .int 0, .ref (am 51), .int 0, .ref (am 53), .ref (am 54), .int 1, .int 0, .ref (am 57), .long 0, .ref (am 59), .ref (am 60), .long 0, .int 0, .int 0, .int 0, .int 0, .int 0, .int 0, .ref (am 68), .int 0, .int 0, .ref (am 71), .ref (am 72), .ref (am 73), .ref (am 74), .ref (am 75), .ref (am 76), .ref (am 77), .ref (am 78)])), (am 35, .inl (cs 35, 16, .inr (.inl (gs 35))))] U.heap ∧ va_K (dC, dI) vwCl [(cs 35, .long)] U ∧ va_D (fun _ => True) [(h0, .inr (12, [.int 0, .int 0, .ref (am 2), .ref (am 3), .ref (am 4), .int 0, .ref (am 6), .ref (am 7), .ref (am 8), .int 0, .ref (am 10), .ref (am 11), .ref (am 12), .ref (am 13), .ref (am 14), .ref (am 15), .int 0, .ref (am 17), .ref (am 18), .ref (am 19), .ref (am 20), .int 0, .ref (am 22), .int 0, .ref (am 24), .ref (am 25), .ref (am 26), .ref (am 27), .ref (am 28), .ref (am 29), .int 0, .ref (am 31), .ref (am 32), .ref (am 33), .int 0, .ref (am 35), .int 0, .ref (am 37), .ref (am 38), .ref (am 39), .ref (am 40), .ref (am 41), .ref (am 42), .ref (am 43), .int 0, .ref (am 45), .ref (am 46), .ref (am 47), .int 0, .ref (am 49), .int 0, .ref (am 51), .int 0, .ref (am 53), .ref (am 54), .int 1, .int 0, .ref (am 57), .long 0, .ref (am 59), .ref (am 60), .long 0, .int 0, .int 0, .int 0, .int 0, .int 0, .int 0, .ref (am 68), .int 0, .int 0, .ref (am 71), .ref (am 72), .ref (am 73), .ref (am 74), .ref (am 75), .ref (am 76), .ref (am 77), .ref (am 78)])), (am 35, .inl (cs 35, 16, .inr (.inl (gs 35))))])) (va_Qi (fun (r : Int32) (u : Unit) => match u with | () => ((p0 = 0) ∧ r = (-2)) ∨ ((¬ p0 = 0) ∧ r = 0)) (fun (u : Unit) (t : State) => match u with | () => True) (va_A [(h0, .inr (12, [.int 0, .int 0, .ref (am 2), .ref (am 3), .ref (am 4), .int 0, .ref (am 6), .ref (am 7), .ref (am 8), .int 0, .ref (am 10), .ref (am 11), .ref (am 12), .ref (am 13), .ref (am 14), .ref (am 15), .int 0, .ref (am 17), .ref (am 18), .ref (am 19), .ref (am 20), .int 0, .ref (am 22), .int 0, .ref (am 24), .ref (am 25), .ref (am 26), .ref (am 27), .ref (am 28), .ref (am 29), .int 0, .ref (am 31), .ref (am 32), .ref (am 33), .int 0, .ref (am 35), .int 0, .ref (am 37), .ref (am 38), .ref (am 39), .ref (am 40), .ref (am 41), .ref (am 42), .ref (am 43), .int 0, .ref (am 45), .ref (am 46), .ref (am 47), .int 0, .ref (am 49), .int 0, .ref (am 51), .int 0, .ref (am 53), .ref (am 54), .int 1, .int 0, .ref (am 57), .long 0, .ref (am 59), .ref (am 60), .long 0, .int 0, .int 0, .int 0, .int 0, .int 0, .int 0, .ref (am 68), .int 0, .int 0, .ref (am 71), .ref (am 72), .ref (am 73), .ref (am 74), .ref (am 75), .ref (am 76), .ref (am 77), .ref (am 78)])), (am 35, .inl (cs 35, 16, .inr (.inl (gs 35))))] sz)) 0 0 (va_A [(h0, .inr (12, [.int 0, .int 0, .ref (am 2), .ref (am 3), .ref (am 4), .int 0, .ref (am 6), .ref (am 7), .ref (am 8), .int 0, .ref (am 10), .ref (am 11), .ref (am 12), .ref (am 13), .ref (am 14), .ref (am 15), .int 0, .ref (am 17), .ref (am 18), .ref (am 19), .ref (am 20), .int 0, .ref (am 22), .int 0, .ref (am 24), .ref (am 25), .ref (am 26), .ref (am 27), .ref (am 28), .ref (am 29), .int 0, .ref (am 31), .ref (am 32), .ref (am 33), .int 0, .ref (am 35), .int 0, .ref (am 37), .ref (am 38), .ref (am 39), .ref (am 40), .ref (am 41), .ref (am 42), .ref (am 43), .int 0, .ref (am 45), .ref (am 46), .ref (am 47), .int 0, .ref (am 49), .int 0, .ref (am 51), .int 0, .ref (am 53), .ref (am 54), .int 1, .int 0, .ref (am 57), .long 0, .ref (am 59), .ref (am 60), .long 0, .int 0, .int 0, .int 0, .int 0, .int 0, .int 0, .ref (am 68), .int 0, .int 0, .ref (am 71), .ref (am 72), .ref (am 73), .ref (am 74), .ref (am 75), .ref (am 76), .ref (am 77), .ref (am 78)])), (am 35, .inl (cs 35, 16, .inr (.inl (gs 35))))] sz) := by
  refine Met.ofW (cc := cX12_lane) (maxL := 3) (ret := (some .int)) (by decide) rfl ?_
  intro p e s m args below meth c s₁ B hml hv
  obtain ⟨rfl, hsz, hP, hK, hD0⟩ := hv
  have hx := B.exec
  have hb := B.bytes
  have hr := B.returns
  have hts := atoms_spec (ws := wsX12_lane) B.pre
  have hown : s.vm.findClass RX12 = some m.cls := findClass_of_methodNamed B.named
  have hlocks := B.notSynchronized
  subst hsz
  have hD := hD0.self (sz := s.heap.size)
  generalize hAe : va_A [(h0, .inr (12, [.int 0, .int 0, .ref (am 2), .ref (am 3), .ref (am 4), .int 0, .ref (am 6), .ref (am 7), .ref (am 8), .int 0, .ref (am 10), .ref (am 11), .ref (am 12), .ref (am 13), .ref (am 14), .ref (am 15), .int 0, .ref (am 17), .ref (am 18), .ref (am 19), .ref (am 20), .int 0, .ref (am 22), .int 0, .ref (am 24), .ref (am 25), .ref (am 26), .ref (am 27), .ref (am 28), .ref (am 29), .int 0, .ref (am 31), .ref (am 32), .ref (am 33), .int 0, .ref (am 35), .int 0, .ref (am 37), .ref (am 38), .ref (am 39), .ref (am 40), .ref (am 41), .ref (am 42), .ref (am 43), .int 0, .ref (am 45), .ref (am 46), .ref (am 47), .int 0, .ref (am 49), .int 0, .ref (am 51), .int 0, .ref (am 53), .ref (am 54), .int 1, .int 0, .ref (am 57), .long 0, .ref (am 59), .ref (am 60), .long 0, .int 0, .int 0, .int 0, .int 0, .int 0, .int 0, .ref (am 68), .int 0, .int 0, .ref (am 71), .ref (am 72), .ref (am 73), .ref (am 74), .ref (am 75), .ref (am 76), .ref (am 77), .ref (am 78)])), (am 35, .inl (cs 35, 16, .inr (.inl (gs 35))))] s.heap.size = A at hD  ⊢
  have hA : ∀ q : Nat, s.heap.size ≤ q → A q := fun q h => by rw [← hAe]; exact Or.inr h
  have hS : va_S A s.heap s.heap [] := va_S.rf
  have hl := lv_entry ([.ref h0, .long p0]) (n := 3) (Nat.le_of_ble_eq_true rfl)
  rw [lg_entry_eq]
  generalize (lg_sl ([.ref h0, .long p0]) ++ List.replicate (3 - (lg_sl ([.ref h0, .long p0])).length) Slot.unset).toArray = ls at hl ⊢
  have hl : lv_has ls 3 [(0, .ref h0), (1, .long p0)] := hl
  refine lv_lload_n hx hb dX12_lane_0 rfl (lv_at hl 1 rfl) ?_
  refine lv_lconst (v := 0) hx hb dX12_lane_1 (by decide) ?_
  refine W.lcmp hx hb dX12_lane_2 ?_
  refine lv_if_ne (tgt := 9) hx hb dX12_lane_3 (by decide) (fun c_1 => ?_) (fun c_1 => ?_)
  · refine lv_aload_n hx hb dX12_lane_9 rfl (lv_at hl 0 rfl) ?_
    refine va_get (D := (dC, dI)) (ci := 12) (v := .int 0) (C := RX12) (T := TX12) (N := 79) hx hb hts (by decide +kernel) hown hK hP 0 rfl rfl 36 (by decide) (hts (.fieldLink RX12 272 "RedTentModel" "laneMany" "I") (by decide +kernel)) (fun _ h9 => h9) rfl dX12_lane_10 ?_
    refine lv_bipush (v := 16) hx hb dX12_lane_13 (by decide) ?_
    refine lv_icmp_ne (tgt := 21) hx hb dX12_lane_15 (by decide) (fun _ => ?_) (fun c9 => absurd c9 (by decide))
    refine lv_aload_n hx hb dX12_lane_21 rfl (lv_at hl 0 rfl) ?_
    refine va_get (D := (dC, dI)) (ci := 12) (v := .ref (am 35)) (C := RX12) (T := TX12) (N := 79) hx hb hts (by decide +kernel) hown hK hP 0 rfl rfl 35 (by decide) (hts (.fieldLink RX12 89 "RedTentModel" "lanes" "[J") (by decide +kernel)) (fun _ h9 => h9) rfl dX12_lane_22 ?_
    refine lv_aload_n hx hb dX12_lane_25 rfl (lv_at hl 0 rfl) ?_
    refine va_get (D := (dC, dI)) (ci := 12) (v := .int 0) (C := RX12) (T := TX12) (N := 79) hx hb hts (by decide +kernel) hown hK hP 0 rfl rfl 36 (by decide) (hts (.fieldLink RX12 272 "RedTentModel" "laneMany" "I") (by decide +kernel)) (fun _ h9 => h9) rfl dX12_lane_26 ?_
    refine lv_lload_n hx hb dX12_lane_29 rfl (lv_at hl 1 rfl) ?_
    refine va_last hx hb hK hP hD hS 1 0 rfl rfl (by unfold vp_in; decide) dX12_lane_30 (fun H locs hP hD hS => ?_)
    have hP : va_P (dC, dI) vwCl [(h0, .inr (12, [.int 0, .int 0, .ref (am 2), .ref (am 3), .ref (am 4), .int 0, .ref (am 6), .ref (am 7), .ref (am 8), .int 0, .ref (am 10), .ref (am 11), .ref (am 12), .ref (am 13), .ref (am 14), .ref (am 15), .int 0, .ref (am 17), .ref (am 18), .ref (am 19), .ref (am 20), .int 0, .ref (am 22), .int 0, .ref (am 24), .ref (am 25), .ref (am 26), .ref (am 27), .ref (am 28), .ref (am 29), .int 0, .ref (am 31), .ref (am 32), .ref (am 33), .int 0, .ref (am 35), .int 0, .ref (am 37), .ref (am 38), .ref (am 39), .ref (am 40), .ref (am 41), .ref (am 42), .ref (am 43), .int 0, .ref (am 45), .ref (am 46), .ref (am 47), .int 0, .ref (am 49), .int 0, .ref (am 51), .int 0, .ref (am 53), .ref (am 54), .int 1, .int 0, .ref (am 57), .long 0, .ref (am 59), .ref (am 60), .long 0, .int 0, .int 0, .int 0, .int 0, .int 0, .int 0, .ref (am 68), .int 0, .int 0, .ref (am 71), .ref (am 72), .ref (am 73), .ref (am 74), .ref (am 75), .ref (am 76), .ref (am 77), .ref (am 78)])), (am 35, .inl (cs 35, 16, .inr (.inl (vp_updL (gs 35) (0 : Int32).toNatClampNeg p0))))] H := hP
    have hD : va_D A [(h0, .inr (12, [.int 0, .int 0, .ref (am 2), .ref (am 3), .ref (am 4), .int 0, .ref (am 6), .ref (am 7), .ref (am 8), .int 0, .ref (am 10), .ref (am 11), .ref (am 12), .ref (am 13), .ref (am 14), .ref (am 15), .int 0, .ref (am 17), .ref (am 18), .ref (am 19), .ref (am 20), .int 0, .ref (am 22), .int 0, .ref (am 24), .ref (am 25), .ref (am 26), .ref (am 27), .ref (am 28), .ref (am 29), .int 0, .ref (am 31), .ref (am 32), .ref (am 33), .int 0, .ref (am 35), .int 0, .ref (am 37), .ref (am 38), .ref (am 39), .ref (am 40), .ref (am 41), .ref (am 42), .ref (am 43), .int 0, .ref (am 45), .ref (am 46), .ref (am 47), .int 0, .ref (am 49), .int 0, .ref (am 51), .int 0, .ref (am 53), .ref (am 54), .int 1, .int 0, .ref (am 57), .long 0, .ref (am 59), .ref (am 60), .long 0, .int 0, .int 0, .int 0, .int 0, .int 0, .int 0, .ref (am 68), .int 0, .int 0, .ref (am 71), .ref (am 72), .ref (am 73), .ref (am 74), .ref (am 75), .ref (am 76), .ref (am 77), .ref (am 78)])), (am 35, .inl (cs 35, 16, .inr (.inl (vp_updL (gs 35) (0 : Int32).toNatClampNeg p0))))] := hD
    refine lv_aload_n hx hb dX12_lane_31 rfl (lv_at hl 0 rfl) ?_
    refine lv_dup hx hb dX12_lane_32 rfl ?_
    refine va_get (D := (dC, dI)) (ci := 12) (v := .int 0) (C := RX12) (T := TX12) (N := 79) hx hb hts (by decide +kernel) hown hK hP 0 rfl rfl 36 (by decide) (hts (.fieldLink RX12 272 "RedTentModel" "laneMany" "I") (by decide +kernel)) (fun _ h9 => h9) rfl dX12_lane_33 ?_
    refine lv_iconst (v := 1) hx hb dX12_lane_36 (by decide) ?_
    refine lv_iadd hx hb dX12_lane_37 ?_
    refine lv_topi (fun y_2 ey_2 => ?_)
    obtain rfl : y_2 = 1 := ey_2.trans (by decide)
    refine va_put (D := (dC, dI)) (ci := 12) (v := .int 1) (ty := .int) (C := RX12) (T := TX12) (N := 79) hx hb hts (by decide +kernel) tyX12 tyX12_ok nmX12 hown hK hP hD hS 0 rfl rfl 36 (by decide) (hts (.fieldLink RX12 272 "RedTentModel" "laneMany" "I") (by decide +kernel)) (fun _ h9 => h9) rfl (by decide +kernel) rfl rfl (Nat.le_of_ble_eq_true rfl) dX12_lane_38 (fun H locs hP hD hS => ?_)
    have hP : va_P (dC, dI) vwCl [(h0, .inr (12, [.int 0, .int 0, .ref (am 2), .ref (am 3), .ref (am 4), .int 0, .ref (am 6), .ref (am 7), .ref (am 8), .int 0, .ref (am 10), .ref (am 11), .ref (am 12), .ref (am 13), .ref (am 14), .ref (am 15), .int 0, .ref (am 17), .ref (am 18), .ref (am 19), .ref (am 20), .int 0, .ref (am 22), .int 0, .ref (am 24), .ref (am 25), .ref (am 26), .ref (am 27), .ref (am 28), .ref (am 29), .int 0, .ref (am 31), .ref (am 32), .ref (am 33), .int 0, .ref (am 35), .int 1, .ref (am 37), .ref (am 38), .ref (am 39), .ref (am 40), .ref (am 41), .ref (am 42), .ref (am 43), .int 0, .ref (am 45), .ref (am 46), .ref (am 47), .int 0, .ref (am 49), .int 0, .ref (am 51), .int 0, .ref (am 53), .ref (am 54), .int 1, .int 0, .ref (am 57), .long 0, .ref (am 59), .ref (am 60), .long 0, .int 0, .int 0, .int 0, .int 0, .int 0, .int 0, .ref (am 68), .int 0, .int 0, .ref (am 71), .ref (am 72), .ref (am 73), .ref (am 74), .ref (am 75), .ref (am 76), .ref (am 77), .ref (am 78)])), (am 35, .inl (cs 35, 16, .inr (.inl (vp_updL (gs 35) (0 : Int32).toNatClampNeg p0))))] H := hP
    have hD : va_D A [(h0, .inr (12, [.int 0, .int 0, .ref (am 2), .ref (am 3), .ref (am 4), .int 0, .ref (am 6), .ref (am 7), .ref (am 8), .int 0, .ref (am 10), .ref (am 11), .ref (am 12), .ref (am 13), .ref (am 14), .ref (am 15), .int 0, .ref (am 17), .ref (am 18), .ref (am 19), .ref (am 20), .int 0, .ref (am 22), .int 0, .ref (am 24), .ref (am 25), .ref (am 26), .ref (am 27), .ref (am 28), .ref (am 29), .int 0, .ref (am 31), .ref (am 32), .ref (am 33), .int 0, .ref (am 35), .int 1, .ref (am 37), .ref (am 38), .ref (am 39), .ref (am 40), .ref (am 41), .ref (am 42), .ref (am 43), .int 0, .ref (am 45), .ref (am 46), .ref (am 47), .int 0, .ref (am 49), .int 0, .ref (am 51), .int 0, .ref (am 53), .ref (am 54), .int 1, .int 0, .ref (am 57), .long 0, .ref (am 59), .ref (am 60), .long 0, .int 0, .int 0, .int 0, .int 0, .int 0, .int 0, .ref (am 68), .int 0, .int 0, .ref (am 71), .ref (am 72), .ref (am 73), .ref (am 74), .ref (am 75), .ref (am 76), .ref (am 77), .ref (am 78)])), (am 35, .inl (cs 35, 16, .inr (.inl (vp_updL (gs 35) (0 : Int32).toNatClampNeg p0))))] := hD
    refine lv_aload_n hx hb dX12_lane_41 rfl (lv_at hl 0 rfl) ?_
    refine va_get (D := (dC, dI)) (ci := 12) (v := .int 1) (C := RX12) (T := TX12) (N := 79) hx hb hts (by decide +kernel) hown hK hP 0 rfl rfl 36 (by decide) (hts (.fieldLink RX12 272 "RedTentModel" "laneMany" "I") (by decide +kernel)) (fun _ h9 => h9) rfl dX12_lane_42 ?_
    refine lv_iconst (v := 1) hx hb dX12_lane_45 (by decide) ?_
    refine lv_isub hx hb dX12_lane_46 ?_
    refine lv_topi (fun y_3 ey_3 => ?_)
    obtain rfl : y_3 = 0 := ey_3.trans (by decide)
    have hpost : ((p0 = 0) ∧ (0 : Int32) = (-2)) ∨ ((¬ p0 = 0) ∧ (0 : Int32) = 0) := by
      try simp only [lg_cmp_ge, lg_cmp_le, lg_cmp_gt, lg_cmp_lt, lg_cmp_eq] at c_1
      try simp only [fa_lt, fa_le, fa_eq, fa_lt64, fa_le64, fa_eq64, Int32.reduceToInt, Int64.reduceToInt, zi_ite] at c_1
      first
      | exact Or.inl ⟨by (try simp only [fa_lt, fa_le, fa_eq, fa_lt64, fa_le64, fa_eq64, Int32.reduceToInt, Int64.reduceToInt, zi_ite]); omega, rfl⟩
      | exact Or.inr (⟨by (try simp only [fa_lt, fa_le, fa_eq, fa_lt64, fa_le64, fa_eq64, Int32.reduceToInt, Int64.reduceToInt, zi_ite]); omega, rfl⟩)
    refine W.widen (k := 0) (n := 0) (by decide +kernel) (by decide +kernel) ?_
    exact W.iret (v := 0) hx hb hr (fun t ht hW => ⟨⟨0, (), rfl, hpost, trivial⟩, hS.F ht⟩) hS.2.2 dX12_lane_47
  · refine lv_bipush (v := (-2)) hx hb dX12_lane_6 (by decide) ?_
    have hpost : ((p0 = 0) ∧ ((-2) : Int32) = (-2)) ∨ ((¬ p0 = 0) ∧ ((-2) : Int32) = 0) := by
      try simp only [lg_cmp_ge, lg_cmp_le, lg_cmp_gt, lg_cmp_lt, lg_cmp_eq] at c_1
      try simp only [fa_lt, fa_le, fa_eq, fa_lt64, fa_le64, fa_eq64, Int32.reduceToInt, Int64.reduceToInt, zi_ite] at c_1
      first
      | exact Or.inl ⟨by (try simp only [fa_lt, fa_le, fa_eq, fa_lt64, fa_le64, fa_eq64, Int32.reduceToInt, Int64.reduceToInt, zi_ite]); omega, rfl⟩
      | exact Or.inr (⟨by (try simp only [fa_lt, fa_le, fa_eq, fa_lt64, fa_le64, fa_eq64, Int32.reduceToInt, Int64.reduceToInt, zi_ite]); omega, rfl⟩)
    refine W.widen (k := 0) (n := 0) (by decide +kernel) (by decide +kernel) ?_
    exact W.iret (v := (-2)) hx hb hr (fun t ht hW => ⟨⟨(-2), (), rfl, hpost, trivial⟩, hS.F ht⟩) hS.2.2 dX12_lane_8
set_option maxHeartbeats 1000000 in
set_option maxRecDepth 100000 in
theorem rt_X12_force (l : Launch) (dC : Nat → ClassId) (dI : Nat → Nat → Nat) (sz : Nat) (h0 : Nat) (am : Nat → Nat) (p0 : Int32) : Met l yX12_force wsX12_force ({ frames := 0, cells := 0, slots := 0, locals := 0 }) (va_Pc [.ref h0, .int p0] (fun U => U.heap.size = sz ∧ va_P (dC, dI) vwCl [(h0, .inr (12, [.int 0, .int 0, .ref (am 2), .ref (am 3), .ref (am 4), .int 0, .ref (am 6), .ref (am 7), .ref (am 8), .int 0, .ref (am 10), .ref (am 11), .ref (am 12), .ref (am 13), .ref (am 14), .ref (am 15), .int 0, .ref (am 17), .ref (am 18), .ref (am 19), .ref (am 20), .int 0, .ref (am 22), .int 0, .ref (am 24), .ref (am 25), .ref (am 26), .ref (am 27), .ref (am 28), .ref (am 29), .int 0, .ref (am 31), .ref (am 32), .ref (am 33), .int 0, .ref (am 35), .int 0, .ref (am 37), .ref (am 38), .ref (am 39), .ref (am 40), .ref (am 41), .ref (am 42), .ref (am 43), .int 0, .ref (am 45), .ref (am 46), .ref (am 47), .int 0, .ref (am 49), .int 0, .ref (am 51), .int 0, .ref (am 53), .ref (am 54), .int 1, .int 0, .ref (am 57), .long 0, .ref (am 59), .ref (am 60), .long 0, .int 0, .int 0, .int 0, .int 0, .int 0, .int 0, .ref (am 68), .int 0, .int 0, .ref (am 71), .ref (am 72), .ref (am 73), .ref (am 74), .ref (am 75), .ref (am 76), .ref (am 77), .ref (am 78)]))] U.heap ∧ va_K (dC, dI) vwCl [] U ∧ va_D (fun _ => True) [(h0, .inr (12, [.int 0, .int 0, .ref (am 2), .ref (am 3), .ref (am 4), .int 0, .ref (am 6), .ref (am 7), .ref (am 8), .int 0, .ref (am 10), .ref (am 11), .ref (am 12), .ref (am 13), .ref (am 14), .ref (am 15), .int 0, .ref (am 17), .ref (am 18), .ref (am 19), .ref (am 20), .int 0, .ref (am 22), .int 0, .ref (am 24), .ref (am 25), .ref (am 26), .ref (am 27), .ref (am 28), .ref (am 29), .int 0, .ref (am 31), .ref (am 32), .ref (am 33), .int 0, .ref (am 35), .int 0, .ref (am 37), .ref (am 38), .ref (am 39), .ref (am 40), .ref (am 41), .ref (am 42), .ref (am 43), .int 0, .ref (am 45), .ref (am 46), .ref (am 47), .int 0, .ref (am 49), .int 0, .ref (am 51), .int 0, .ref (am 53), .ref (am 54), .int 1, .int 0, .ref (am 57), .long 0, .ref (am 59), .ref (am 60), .long 0, .int 0, .int 0, .int 0, .int 0, .int 0, .int 0, .ref (am 68), .int 0, .int 0, .ref (am 71), .ref (am 72), .ref (am 73), .ref (am 74), .ref (am 75), .ref (am 76), .ref (am 77), .ref (am 78)]))])) (va_Qi (fun (r : Int32) (u : Unit) => match u with | () => ((p0 = 0) ∧ r = 0) ∨ ((¬ p0 = 0) ∧ r = (-2))) (fun (u : Unit) (t : State) => match u with | () => True) (va_A [(h0, .inr (12, [.int 0, .int 0, .ref (am 2), .ref (am 3), .ref (am 4), .int 0, .ref (am 6), .ref (am 7), .ref (am 8), .int 0, .ref (am 10), .ref (am 11), .ref (am 12), .ref (am 13), .ref (am 14), .ref (am 15), .int 0, .ref (am 17), .ref (am 18), .ref (am 19), .ref (am 20), .int 0, .ref (am 22), .int 0, .ref (am 24), .ref (am 25), .ref (am 26), .ref (am 27), .ref (am 28), .ref (am 29), .int 0, .ref (am 31), .ref (am 32), .ref (am 33), .int 0, .ref (am 35), .int 0, .ref (am 37), .ref (am 38), .ref (am 39), .ref (am 40), .ref (am 41), .ref (am 42), .ref (am 43), .int 0, .ref (am 45), .ref (am 46), .ref (am 47), .int 0, .ref (am 49), .int 0, .ref (am 51), .int 0, .ref (am 53), .ref (am 54), .int 1, .int 0, .ref (am 57), .long 0, .ref (am 59), .ref (am 60), .long 0, .int 0, .int 0, .int 0, .int 0, .int 0, .int 0, .ref (am 68), .int 0, .int 0, .ref (am 71), .ref (am 72), .ref (am 73), .ref (am 74), .ref (am 75), .ref (am 76), .ref (am 77), .ref (am 78)]))] sz)) 0 0 (va_A [(h0, .inr (12, [.int 0, .int 0, .ref (am 2), .ref (am 3), .ref (am 4), .int 0, .ref (am 6), .ref (am 7), .ref (am 8), .int 0, .ref (am 10), .ref (am 11), .ref (am 12), .ref (am 13), .ref (am 14), .ref (am 15), .int 0, .ref (am 17), .ref (am 18), .ref (am 19), .ref (am 20), .int 0, .ref (am 22), .int 0, .ref (am 24), .ref (am 25), .ref (am 26), .ref (am 27), .ref (am 28), .ref (am 29), .int 0, .ref (am 31), .ref (am 32), .ref (am 33), .int 0, .ref (am 35), .int 0, .ref (am 37), .ref (am 38), .ref (am 39), .ref (am 40), .ref (am 41), .ref (am 42), .ref (am 43), .int 0, .ref (am 45), .ref (am 46), .ref (am 47), .int 0, .ref (am 49), .int 0, .ref (am 51), .int 0, .ref (am 53), .ref (am 54), .int 1, .int 0, .ref (am 57), .long 0, .ref (am 59), .ref (am 60), .long 0, .int 0, .int 0, .int 0, .int 0, .int 0, .int 0, .ref (am 68), .int 0, .int 0, .ref (am 71), .ref (am 72), .ref (am 73), .ref (am 74), .ref (am 75), .ref (am 76), .ref (am 77), .ref (am 78)]))] sz) := by
  refine Met.ofW (cc := cX12_force) (maxL := 3) (ret := (some .int)) (by decide) rfl ?_
  intro p e s m args below meth c s₁ B hml hv
  obtain ⟨rfl, hsz, hP, hK, hD0⟩ := hv
  have hx := B.exec
  have hb := B.bytes
  have hr := B.returns
  have hts := atoms_spec (ws := wsX12_force) B.pre
  have hown : s.vm.findClass RX12 = some m.cls := findClass_of_methodNamed B.named
  have hlocks := B.notSynchronized
  subst hsz
  have hD := hD0.self (sz := s.heap.size)
  generalize hAe : va_A [(h0, .inr (12, [.int 0, .int 0, .ref (am 2), .ref (am 3), .ref (am 4), .int 0, .ref (am 6), .ref (am 7), .ref (am 8), .int 0, .ref (am 10), .ref (am 11), .ref (am 12), .ref (am 13), .ref (am 14), .ref (am 15), .int 0, .ref (am 17), .ref (am 18), .ref (am 19), .ref (am 20), .int 0, .ref (am 22), .int 0, .ref (am 24), .ref (am 25), .ref (am 26), .ref (am 27), .ref (am 28), .ref (am 29), .int 0, .ref (am 31), .ref (am 32), .ref (am 33), .int 0, .ref (am 35), .int 0, .ref (am 37), .ref (am 38), .ref (am 39), .ref (am 40), .ref (am 41), .ref (am 42), .ref (am 43), .int 0, .ref (am 45), .ref (am 46), .ref (am 47), .int 0, .ref (am 49), .int 0, .ref (am 51), .int 0, .ref (am 53), .ref (am 54), .int 1, .int 0, .ref (am 57), .long 0, .ref (am 59), .ref (am 60), .long 0, .int 0, .int 0, .int 0, .int 0, .int 0, .int 0, .ref (am 68), .int 0, .int 0, .ref (am 71), .ref (am 72), .ref (am 73), .ref (am 74), .ref (am 75), .ref (am 76), .ref (am 77), .ref (am 78)]))] s.heap.size = A at hD  ⊢
  have hA : ∀ q : Nat, s.heap.size ≤ q → A q := fun q h => by rw [← hAe]; exact Or.inr h
  have hS : va_S A s.heap s.heap [] := va_S.rf
  have hl := lv_entry ([.ref h0, .int p0]) (n := 3) (Nat.le_of_ble_eq_true rfl)
  rw [lg_entry_eq]
  generalize (lg_sl ([.ref h0, .int p0]) ++ List.replicate (3 - (lg_sl ([.ref h0, .int p0])).length) Slot.unset).toArray = ls at hl ⊢
  have hl : lv_has ls 3 [(0, .ref h0), (1, .int p0)] := hl
  refine lv_iload_n hx hb dX12_force_0 rfl (lv_at hl 1 rfl) ?_
  refine lv_if_lt (tgt := 12) hx hb dX12_force_1 (by decide) (fun c_1 => ?_) (fun c_1 => ?_)
  · refine lv_bipush (v := (-2)) hx hb dX12_force_12 (by decide) ?_
    have hpost : ((p0 = 0) ∧ ((-2) : Int32) = 0) ∨ ((¬ p0 = 0) ∧ ((-2) : Int32) = (-2)) := by
      try simp only [fa_lt, fa_le, fa_eq, fa_lt64, fa_le64, fa_eq64, Int32.reduceToInt, Int64.reduceToInt, zi_ite] at c_1
      first
      | exact Or.inl ⟨by (try simp only [fa_lt, fa_le, fa_eq, fa_lt64, fa_le64, fa_eq64, Int32.reduceToInt, Int64.reduceToInt, zi_ite]); omega, rfl⟩
      | exact Or.inr (⟨by (try simp only [fa_lt, fa_le, fa_eq, fa_lt64, fa_le64, fa_eq64, Int32.reduceToInt, Int64.reduceToInt, zi_ite]); omega, rfl⟩)
    refine W.widen (k := 0) (n := 0) (by decide +kernel) (by decide +kernel) ?_
    exact W.iret (v := (-2)) hx hb hr (fun t ht hW => ⟨⟨(-2), (), rfl, hpost, trivial⟩, hS.F ht⟩) hS.2.2 dX12_force_14
  · refine lv_iload_n hx hb dX12_force_4 rfl (lv_at hl 1 rfl) ?_
    refine lv_aload_n hx hb dX12_force_5 rfl (lv_at hl 0 rfl) ?_
    refine va_get (D := (dC, dI)) (ci := 12) (v := .int 1) (C := RX12) (T := TX12) (N := 79) hx hb hts (by decide +kernel) hown hK hP 0 rfl rfl 55 (by decide) (hts (.fieldLink RX12 182 "RedTentModel" "texts" "I") (by decide +kernel)) (fun _ h9 => h9) rfl dX12_force_6 ?_
    refine lv_icmp_lt (tgt := 15) hx hb dX12_force_9 (by decide) (fun c_2 => ?_) (fun c_2 => ?_)
    · refine lv_aload_n hx hb dX12_force_15 rfl (lv_at hl 0 rfl) ?_
      refine va_get (D := (dC, dI)) (ci := 12) (v := .int 0) (C := RX12) (T := TX12) (N := 79) hx hb hts (by decide +kernel) hown hK hP 0 rfl rfl 56 (by decide) (hts (.fieldLink RX12 431 "RedTentModel" "order" "I") (by decide +kernel)) (fun _ h9 => h9) rfl dX12_force_16 ?_
      refine lv_istore_n (lv' := [(2, .int 0), (0, .ref h0), (1, .int p0)]) hx hb dX12_force_19 rfl hl (by decide) rfl (fun ls hl => ?_)
      refine lv_aload_n hx hb dX12_force_20 rfl (lv_at hl 1 rfl) ?_
      refine lv_iload_n hx hb dX12_force_21 rfl (lv_at hl 2 rfl) ?_
      refine va_put (D := (dC, dI)) (ci := 12) (v := .int p0) (ty := .int) (C := RX12) (T := TX12) (N := 79) hx hb hts (by decide +kernel) tyX12 tyX12_ok nmX12 hown hK hP hD hS 0 rfl rfl 56 (by decide) (hts (.fieldLink RX12 431 "RedTentModel" "order" "I") (by decide +kernel)) (fun _ h9 => h9) rfl (by decide +kernel) rfl rfl (Nat.le_of_ble_eq_true rfl) dX12_force_22 (fun H locs hP hD hS => ?_)
      have hP : va_P (dC, dI) vwCl [(h0, .inr (12, [.int 0, .int 0, .ref (am 2), .ref (am 3), .ref (am 4), .int 0, .ref (am 6), .ref (am 7), .ref (am 8), .int 0, .ref (am 10), .ref (am 11), .ref (am 12), .ref (am 13), .ref (am 14), .ref (am 15), .int 0, .ref (am 17), .ref (am 18), .ref (am 19), .ref (am 20), .int 0, .ref (am 22), .int 0, .ref (am 24), .ref (am 25), .ref (am 26), .ref (am 27), .ref (am 28), .ref (am 29), .int 0, .ref (am 31), .ref (am 32), .ref (am 33), .int 0, .ref (am 35), .int 0, .ref (am 37), .ref (am 38), .ref (am 39), .ref (am 40), .ref (am 41), .ref (am 42), .ref (am 43), .int 0, .ref (am 45), .ref (am 46), .ref (am 47), .int 0, .ref (am 49), .int 0, .ref (am 51), .int 0, .ref (am 53), .ref (am 54), .int 1, .int p0, .ref (am 57), .long 0, .ref (am 59), .ref (am 60), .long 0, .int 0, .int 0, .int 0, .int 0, .int 0, .int 0, .ref (am 68), .int 0, .int 0, .ref (am 71), .ref (am 72), .ref (am 73), .ref (am 74), .ref (am 75), .ref (am 76), .ref (am 77), .ref (am 78)]))] H := hP
      have hD : va_D A [(h0, .inr (12, [.int 0, .int 0, .ref (am 2), .ref (am 3), .ref (am 4), .int 0, .ref (am 6), .ref (am 7), .ref (am 8), .int 0, .ref (am 10), .ref (am 11), .ref (am 12), .ref (am 13), .ref (am 14), .ref (am 15), .int 0, .ref (am 17), .ref (am 18), .ref (am 19), .ref (am 20), .int 0, .ref (am 22), .int 0, .ref (am 24), .ref (am 25), .ref (am 26), .ref (am 27), .ref (am 28), .ref (am 29), .int 0, .ref (am 31), .ref (am 32), .ref (am 33), .int 0, .ref (am 35), .int 0, .ref (am 37), .ref (am 38), .ref (am 39), .ref (am 40), .ref (am 41), .ref (am 42), .ref (am 43), .int 0, .ref (am 45), .ref (am 46), .ref (am 47), .int 0, .ref (am 49), .int 0, .ref (am 51), .int 0, .ref (am 53), .ref (am 54), .int 1, .int p0, .ref (am 57), .long 0, .ref (am 59), .ref (am 60), .long 0, .int 0, .int 0, .int 0, .int 0, .int 0, .int 0, .ref (am 68), .int 0, .int 0, .ref (am 71), .ref (am 72), .ref (am 73), .ref (am 74), .ref (am 75), .ref (am 76), .ref (am 77), .ref (am 78)]))] := hD
      refine lv_iload_n hx hb dX12_force_25 rfl (lv_at hl 0 rfl) ?_
      have hpost : ((p0 = 0) ∧ (0 : Int32) = 0) ∨ ((¬ p0 = 0) ∧ (0 : Int32) = (-2)) := by
        try simp only [fa_lt, fa_le, fa_eq, fa_lt64, fa_le64, fa_eq64, Int32.reduceToInt, Int64.reduceToInt, zi_ite] at c_1
        try simp only [fa_lt, fa_le, fa_eq, fa_lt64, fa_le64, fa_eq64, Int32.reduceToInt, Int64.reduceToInt, zi_ite] at c_2
        first
        | exact Or.inl ⟨by (try simp only [fa_lt, fa_le, fa_eq, fa_lt64, fa_le64, fa_eq64, Int32.reduceToInt, Int64.reduceToInt, zi_ite]); omega, rfl⟩
        | exact Or.inr (⟨by (try simp only [fa_lt, fa_le, fa_eq, fa_lt64, fa_le64, fa_eq64, Int32.reduceToInt, Int64.reduceToInt, zi_ite]); omega, rfl⟩)
      refine W.widen (k := 0) (n := 0) (by decide +kernel) (by decide +kernel) ?_
      exact W.iret (v := 0) hx hb hr (fun t ht hW => ⟨⟨0, (), rfl, hpost, trivial⟩, hS.F ht⟩) hS.2.2 dX12_force_26
    · refine lv_bipush (v := (-2)) hx hb dX12_force_12 (by decide) ?_
      have hpost : ((p0 = 0) ∧ ((-2) : Int32) = 0) ∨ ((¬ p0 = 0) ∧ ((-2) : Int32) = (-2)) := by
        try simp only [fa_lt, fa_le, fa_eq, fa_lt64, fa_le64, fa_eq64, Int32.reduceToInt, Int64.reduceToInt, zi_ite] at c_1
        try simp only [fa_lt, fa_le, fa_eq, fa_lt64, fa_le64, fa_eq64, Int32.reduceToInt, Int64.reduceToInt, zi_ite] at c_2
        first
        | exact Or.inl ⟨by (try simp only [fa_lt, fa_le, fa_eq, fa_lt64, fa_le64, fa_eq64, Int32.reduceToInt, Int64.reduceToInt, zi_ite]); omega, rfl⟩
        | exact Or.inr (⟨by (try simp only [fa_lt, fa_le, fa_eq, fa_lt64, fa_le64, fa_eq64, Int32.reduceToInt, Int64.reduceToInt, zi_ite]); omega, rfl⟩)
      refine W.widen (k := 0) (n := 0) (by decide +kernel) (by decide +kernel) ?_
      exact W.iret (v := (-2)) hx hb hr (fun t ht hW => ⟨⟨(-2), (), rfl, hpost, trivial⟩, hS.F ht⟩) hS.2.2 dX12_force_14
set_option maxHeartbeats 1000000 in
set_option maxRecDepth 100000 in
theorem rt_X12_count (l : Launch) (dC : Nat → ClassId) (dI : Nat → Nat → Nat) (h0 : Nat) (am : Nat → Nat) (p0 : Int32) : Met l yX12_count wsX12_count ({ frames := 0, cells := 0, slots := 0, locals := 0 }) (va_Pc [.ref h0, .int p0] (fun U => va_P (dC, dI) vwCl [(h0, .inr (12, [.int 0, .int 0, .ref (am 2), .ref (am 3), .ref (am 4), .int 0, .ref (am 6), .ref (am 7), .ref (am 8), .int 0, .ref (am 10), .ref (am 11), .ref (am 12), .ref (am 13), .ref (am 14), .ref (am 15), .int 0, .ref (am 17), .ref (am 18), .ref (am 19), .ref (am 20), .int 0, .ref (am 22), .int 0, .ref (am 24), .ref (am 25), .ref (am 26), .ref (am 27), .ref (am 28), .ref (am 29), .int 0, .ref (am 31), .ref (am 32), .ref (am 33), .int 0, .ref (am 35), .int 0, .ref (am 37), .ref (am 38), .ref (am 39), .ref (am 40), .ref (am 41), .ref (am 42), .ref (am 43), .int 0, .ref (am 45), .ref (am 46), .ref (am 47), .int 0, .ref (am 49), .int 0, .ref (am 51), .int 0, .ref (am 53), .ref (am 54), .int 1, .int 0, .ref (am 57), .long 0, .ref (am 59), .ref (am 60), .long 0, .int 0, .int 0, .int 0, .int 0, .int 0, .int 0, .ref (am 68), .int 0, .int 0, .ref (am 71), .ref (am 72), .ref (am 73), .ref (am 74), .ref (am 75), .ref (am 76), .ref (am 77), .ref (am 78)]))] U.heap ∧ va_K (dC, dI) vwCl [] U)) (vp_Si (fun r : Int32 => ((p0 = 11) ∧ r = 1) ∨ ((0 ≤ p0 ∧ p0 ≤ 14 ∧ ¬ p0 = 11) ∧ r = 0) ∨ ((¬ (0 ≤ p0 ∧ p0 ≤ 14)) ∧ r = (-2)))) 0 0 (fun _ => False) := by
  refine Met.ofW (cc := cX12_count) (maxL := 2) (ret := (some .int)) (by decide) rfl ?_
  intro p e s m args below meth c s₁ B hml hv
  obtain ⟨rfl, hP, hK⟩ := hv
  have hx := B.exec
  have hb := B.bytes
  have hr := B.returns
  have hts := atoms_spec (ws := wsX12_count) B.pre
  have hown : s.vm.findClass RX12 = some m.cls := findClass_of_methodNamed B.named
  have hlocks := B.notSynchronized
  have hl := lv_entry ([.ref h0, .int p0]) (n := 2) (Nat.le_of_ble_eq_true rfl)
  rw [lg_entry_eq]
  generalize (lg_sl ([.ref h0, .int p0]) ++ List.replicate (2 - (lg_sl ([.ref h0, .int p0])).length) Slot.unset).toArray = ls at hl ⊢
  have hl : lv_has ls 2 [(0, .ref h0), (1, .int p0)] := hl
  refine lv_iload_n hx hb dX12_count_0 rfl (lv_at hl 1 rfl) ?_
  rcases (show p0.toInt < 0 ∨ 14 < p0.toInt ∨ p0 = 0 ∨ p0 = 1 ∨ p0 = 2 ∨ p0 = 3 ∨ p0 = 4 ∨ p0 = 5 ∨ p0 = 6 ∨ p0 = 7 ∨ p0 = 8 ∨ p0 = 9 ∨ p0 = 10 ∨ p0 = 11 ∨ p0 = 12 ∨ p0 = 13 ∨ p0 = 14 by simp only [fa_eq, Int32.reduceToInt]; omega) with c_1 | c_1 | c_1 | c_1 | c_1 | c_1 | c_1 | c_1 | c_1 | c_1 | c_1 | c_1 | c_1 | c_1 | c_1 | c_1 | c_1
  · refine lv_tableOut (tgt := 151) hx hb dX12_count_1 (Or.inl c_1) (by decide) ?_
    refine lv_bipush (v := (-2)) hx hb dX12_count_151 (by decide) ?_
    have hpost : ((p0 = 11) ∧ ((-2) : Int32) = 1) ∨ ((0 ≤ p0 ∧ p0 ≤ 14 ∧ ¬ p0 = 11) ∧ ((-2) : Int32) = 0) ∨ ((¬ (0 ≤ p0 ∧ p0 ≤ 14)) ∧ ((-2) : Int32) = (-2)) := by
      try simp only [fa_lt, fa_le, fa_eq, fa_lt64, fa_le64, fa_eq64, Int32.reduceToInt, Int64.reduceToInt, zi_ite] at c_1
      first
      | exact Or.inl ⟨by (try simp only [fa_lt, fa_le, fa_eq, fa_lt64, fa_le64, fa_eq64, Int32.reduceToInt, Int64.reduceToInt, zi_ite]); omega, rfl⟩
      | exact Or.inr (Or.inl ⟨by (try simp only [fa_lt, fa_le, fa_eq, fa_lt64, fa_le64, fa_eq64, Int32.reduceToInt, Int64.reduceToInt, zi_ite]); omega, rfl⟩)
      | exact Or.inr (Or.inr (⟨by (try simp only [fa_lt, fa_le, fa_eq, fa_lt64, fa_le64, fa_eq64, Int32.reduceToInt, Int64.reduceToInt, zi_ite]); omega, rfl⟩))
    exact W.iret (v := (-2)) hx hb hr (fun t ht hW => ⟨(-2), rfl, hpost, ht⟩) (fun _ h => absurd h List.not_mem_nil) dX12_count_153
  · refine lv_tableOut (tgt := 151) hx hb dX12_count_1 (Or.inr c_1) (by decide) ?_
    refine lv_bipush (v := (-2)) hx hb dX12_count_151 (by decide) ?_
    have hpost : ((p0 = 11) ∧ ((-2) : Int32) = 1) ∨ ((0 ≤ p0 ∧ p0 ≤ 14 ∧ ¬ p0 = 11) ∧ ((-2) : Int32) = 0) ∨ ((¬ (0 ≤ p0 ∧ p0 ≤ 14)) ∧ ((-2) : Int32) = (-2)) := by
      try simp only [fa_lt, fa_le, fa_eq, fa_lt64, fa_le64, fa_eq64, Int32.reduceToInt, Int64.reduceToInt, zi_ite] at c_1
      first
      | exact Or.inl ⟨by (try simp only [fa_lt, fa_le, fa_eq, fa_lt64, fa_le64, fa_eq64, Int32.reduceToInt, Int64.reduceToInt, zi_ite]); omega, rfl⟩
      | exact Or.inr (Or.inl ⟨by (try simp only [fa_lt, fa_le, fa_eq, fa_lt64, fa_le64, fa_eq64, Int32.reduceToInt, Int64.reduceToInt, zi_ite]); omega, rfl⟩)
      | exact Or.inr (Or.inr (⟨by (try simp only [fa_lt, fa_le, fa_eq, fa_lt64, fa_le64, fa_eq64, Int32.reduceToInt, Int64.reduceToInt, zi_ite]); omega, rfl⟩))
    exact W.iret (v := (-2)) hx hb hr (fun t ht hW => ⟨(-2), rfl, hpost, ht⟩) (fun _ h => absurd h List.not_mem_nil) dX12_count_153
  · refine lv_tableIn (off := 75) (tgt := 76) hx hb dX12_count_1 (by rw [c_1]; decide) (by rw [c_1]; decide) (by rw [c_1]; decide) (by decide) ?_
    refine lv_aload_n hx hb dX12_count_76 rfl (lv_at hl 0 rfl) ?_
    refine va_get (D := (dC, dI)) (ci := 12) (v := .int 0) (C := RX12) (T := TX12) (N := 79) hx hb hts (by decide +kernel) hown hK hP 0 rfl rfl 0 (by decide) (hts (.fieldLink RX12 201 "RedTentModel" "hour" "I") (by decide +kernel)) (fun _ h9 => h9) rfl dX12_count_77 ?_
    have hpost : ((p0 = 11) ∧ (0 : Int32) = 1) ∨ ((0 ≤ p0 ∧ p0 ≤ 14 ∧ ¬ p0 = 11) ∧ (0 : Int32) = 0) ∨ ((¬ (0 ≤ p0 ∧ p0 ≤ 14)) ∧ (0 : Int32) = (-2)) := by
      try simp only [fa_lt, fa_le, fa_eq, fa_lt64, fa_le64, fa_eq64, Int32.reduceToInt, Int64.reduceToInt, zi_ite] at c_1
      first
      | exact Or.inl ⟨by (try simp only [fa_lt, fa_le, fa_eq, fa_lt64, fa_le64, fa_eq64, Int32.reduceToInt, Int64.reduceToInt, zi_ite]); omega, rfl⟩
      | exact Or.inr (Or.inl ⟨by (try simp only [fa_lt, fa_le, fa_eq, fa_lt64, fa_le64, fa_eq64, Int32.reduceToInt, Int64.reduceToInt, zi_ite]); omega, rfl⟩)
      | exact Or.inr (Or.inr (⟨by (try simp only [fa_lt, fa_le, fa_eq, fa_lt64, fa_le64, fa_eq64, Int32.reduceToInt, Int64.reduceToInt, zi_ite]); omega, rfl⟩))
    exact W.iret (v := 0) hx hb hr (fun t ht hW => ⟨0, rfl, hpost, ht⟩) (fun _ h => absurd h List.not_mem_nil) dX12_count_80
  · refine lv_tableIn (off := 80) (tgt := 81) hx hb dX12_count_1 (by rw [c_1]; decide) (by rw [c_1]; decide) (by rw [c_1]; decide) (by decide) ?_
    refine lv_aload_n hx hb dX12_count_81 rfl (lv_at hl 0 rfl) ?_
    refine va_get (D := (dC, dI)) (ci := 12) (v := .int 0) (C := RX12) (T := TX12) (N := 79) hx hb hts (by decide +kernel) hown hK hP 0 rfl rfl 16 (by decide) (hts (.fieldLink RX12 190 "RedTentModel" "bodies" "I") (by decide +kernel)) (fun _ h9 => h9) rfl dX12_count_82 ?_
    have hpost : ((p0 = 11) ∧ (0 : Int32) = 1) ∨ ((0 ≤ p0 ∧ p0 ≤ 14 ∧ ¬ p0 = 11) ∧ (0 : Int32) = 0) ∨ ((¬ (0 ≤ p0 ∧ p0 ≤ 14)) ∧ (0 : Int32) = (-2)) := by
      try simp only [fa_lt, fa_le, fa_eq, fa_lt64, fa_le64, fa_eq64, Int32.reduceToInt, Int64.reduceToInt, zi_ite] at c_1
      first
      | exact Or.inl ⟨by (try simp only [fa_lt, fa_le, fa_eq, fa_lt64, fa_le64, fa_eq64, Int32.reduceToInt, Int64.reduceToInt, zi_ite]); omega, rfl⟩
      | exact Or.inr (Or.inl ⟨by (try simp only [fa_lt, fa_le, fa_eq, fa_lt64, fa_le64, fa_eq64, Int32.reduceToInt, Int64.reduceToInt, zi_ite]); omega, rfl⟩)
      | exact Or.inr (Or.inr (⟨by (try simp only [fa_lt, fa_le, fa_eq, fa_lt64, fa_le64, fa_eq64, Int32.reduceToInt, Int64.reduceToInt, zi_ite]); omega, rfl⟩))
    exact W.iret (v := 0) hx hb hr (fun t ht hW => ⟨0, rfl, hpost, ht⟩) (fun _ h => absurd h List.not_mem_nil) dX12_count_85
  · refine lv_tableIn (off := 85) (tgt := 86) hx hb dX12_count_1 (by rw [c_1]; decide) (by rw [c_1]; decide) (by rw [c_1]; decide) (by decide) ?_
    refine lv_aload_n hx hb dX12_count_86 rfl (lv_at hl 0 rfl) ?_
    refine va_get (D := (dC, dI)) (ci := 12) (v := .int 0) (C := RX12) (T := TX12) (N := 79) hx hb hts (by decide +kernel) hown hK hP 0 rfl rfl 5 (by decide) (hts (.fieldLink RX12 211 "RedTentModel" "winds" "I") (by decide +kernel)) (fun _ h9 => h9) rfl dX12_count_87 ?_
    have hpost : ((p0 = 11) ∧ (0 : Int32) = 1) ∨ ((0 ≤ p0 ∧ p0 ≤ 14 ∧ ¬ p0 = 11) ∧ (0 : Int32) = 0) ∨ ((¬ (0 ≤ p0 ∧ p0 ≤ 14)) ∧ (0 : Int32) = (-2)) := by
      try simp only [fa_lt, fa_le, fa_eq, fa_lt64, fa_le64, fa_eq64, Int32.reduceToInt, Int64.reduceToInt, zi_ite] at c_1
      first
      | exact Or.inl ⟨by (try simp only [fa_lt, fa_le, fa_eq, fa_lt64, fa_le64, fa_eq64, Int32.reduceToInt, Int64.reduceToInt, zi_ite]); omega, rfl⟩
      | exact Or.inr (Or.inl ⟨by (try simp only [fa_lt, fa_le, fa_eq, fa_lt64, fa_le64, fa_eq64, Int32.reduceToInt, Int64.reduceToInt, zi_ite]); omega, rfl⟩)
      | exact Or.inr (Or.inr (⟨by (try simp only [fa_lt, fa_le, fa_eq, fa_lt64, fa_le64, fa_eq64, Int32.reduceToInt, Int64.reduceToInt, zi_ite]); omega, rfl⟩))
    exact W.iret (v := 0) hx hb hr (fun t ht hW => ⟨0, rfl, hpost, ht⟩) (fun _ h => absurd h List.not_mem_nil) dX12_count_90
  · refine lv_tableIn (off := 90) (tgt := 91) hx hb dX12_count_1 (by rw [c_1]; decide) (by rw [c_1]; decide) (by rw [c_1]; decide) (by decide) ?_
    refine lv_aload_n hx hb dX12_count_91 rfl (lv_at hl 0 rfl) ?_
    refine va_get (D := (dC, dI)) (ci := 12) (v := .int 0) (C := RX12) (T := TX12) (N := 79) hx hb hts (by decide +kernel) hown hK hP 0 rfl rfl 21 (by decide) (hts (.fieldLink RX12 223 "RedTentModel" "fixings" "I") (by decide +kernel)) (fun _ h9 => h9) rfl dX12_count_92 ?_
    have hpost : ((p0 = 11) ∧ (0 : Int32) = 1) ∨ ((0 ≤ p0 ∧ p0 ≤ 14 ∧ ¬ p0 = 11) ∧ (0 : Int32) = 0) ∨ ((¬ (0 ≤ p0 ∧ p0 ≤ 14)) ∧ (0 : Int32) = (-2)) := by
      try simp only [fa_lt, fa_le, fa_eq, fa_lt64, fa_le64, fa_eq64, Int32.reduceToInt, Int64.reduceToInt, zi_ite] at c_1
      first
      | exact Or.inl ⟨by (try simp only [fa_lt, fa_le, fa_eq, fa_lt64, fa_le64, fa_eq64, Int32.reduceToInt, Int64.reduceToInt, zi_ite]); omega, rfl⟩
      | exact Or.inr (Or.inl ⟨by (try simp only [fa_lt, fa_le, fa_eq, fa_lt64, fa_le64, fa_eq64, Int32.reduceToInt, Int64.reduceToInt, zi_ite]); omega, rfl⟩)
      | exact Or.inr (Or.inr (⟨by (try simp only [fa_lt, fa_le, fa_eq, fa_lt64, fa_le64, fa_eq64, Int32.reduceToInt, Int64.reduceToInt, zi_ite]); omega, rfl⟩))
    exact W.iret (v := 0) hx hb hr (fun t ht hW => ⟨0, rfl, hpost, ht⟩) (fun _ h => absurd h List.not_mem_nil) dX12_count_95
  · refine lv_tableIn (off := 95) (tgt := 96) hx hb dX12_count_1 (by rw [c_1]; decide) (by rw [c_1]; decide) (by rw [c_1]; decide) (by decide) ?_
    refine lv_aload_n hx hb dX12_count_96 rfl (lv_at hl 0 rfl) ?_
    refine va_get (D := (dC, dI)) (ci := 12) (v := .int 0) (C := RX12) (T := TX12) (N := 79) hx hb hts (by decide +kernel) hown hK hP 0 rfl rfl 23 (by decide) (hts (.fieldLink RX12 246 "RedTentModel" "hearers" "I") (by decide +kernel)) (fun _ h9 => h9) rfl dX12_count_97 ?_
    have hpost : ((p0 = 11) ∧ (0 : Int32) = 1) ∨ ((0 ≤ p0 ∧ p0 ≤ 14 ∧ ¬ p0 = 11) ∧ (0 : Int32) = 0) ∨ ((¬ (0 ≤ p0 ∧ p0 ≤ 14)) ∧ (0 : Int32) = (-2)) := by
      try simp only [fa_lt, fa_le, fa_eq, fa_lt64, fa_le64, fa_eq64, Int32.reduceToInt, Int64.reduceToInt, zi_ite] at c_1
      first
      | exact Or.inl ⟨by (try simp only [fa_lt, fa_le, fa_eq, fa_lt64, fa_le64, fa_eq64, Int32.reduceToInt, Int64.reduceToInt, zi_ite]); omega, rfl⟩
      | exact Or.inr (Or.inl ⟨by (try simp only [fa_lt, fa_le, fa_eq, fa_lt64, fa_le64, fa_eq64, Int32.reduceToInt, Int64.reduceToInt, zi_ite]); omega, rfl⟩)
      | exact Or.inr (Or.inr (⟨by (try simp only [fa_lt, fa_le, fa_eq, fa_lt64, fa_le64, fa_eq64, Int32.reduceToInt, Int64.reduceToInt, zi_ite]); omega, rfl⟩))
    exact W.iret (v := 0) hx hb hr (fun t ht hW => ⟨0, rfl, hpost, ht⟩) (fun _ h => absurd h List.not_mem_nil) dX12_count_100
  · refine lv_tableIn (off := 100) (tgt := 101) hx hb dX12_count_1 (by rw [c_1]; decide) (by rw [c_1]; decide) (by rw [c_1]; decide) (by decide) ?_
    refine lv_aload_n hx hb dX12_count_101 rfl (lv_at hl 0 rfl) ?_
    refine va_get (D := (dC, dI)) (ci := 12) (v := .int 0) (C := RX12) (T := TX12) (N := 79) hx hb hts (by decide +kernel) hown hK hP 0 rfl rfl 30 (by decide) (hts (.fieldLink RX12 252 "RedTentModel" "calls" "I") (by decide +kernel)) (fun _ h9 => h9) rfl dX12_count_102 ?_
    have hpost : ((p0 = 11) ∧ (0 : Int32) = 1) ∨ ((0 ≤ p0 ∧ p0 ≤ 14 ∧ ¬ p0 = 11) ∧ (0 : Int32) = 0) ∨ ((¬ (0 ≤ p0 ∧ p0 ≤ 14)) ∧ (0 : Int32) = (-2)) := by
      try simp only [fa_lt, fa_le, fa_eq, fa_lt64, fa_le64, fa_eq64, Int32.reduceToInt, Int64.reduceToInt, zi_ite] at c_1
      first
      | exact Or.inl ⟨by (try simp only [fa_lt, fa_le, fa_eq, fa_lt64, fa_le64, fa_eq64, Int32.reduceToInt, Int64.reduceToInt, zi_ite]); omega, rfl⟩
      | exact Or.inr (Or.inl ⟨by (try simp only [fa_lt, fa_le, fa_eq, fa_lt64, fa_le64, fa_eq64, Int32.reduceToInt, Int64.reduceToInt, zi_ite]); omega, rfl⟩)
      | exact Or.inr (Or.inr (⟨by (try simp only [fa_lt, fa_le, fa_eq, fa_lt64, fa_le64, fa_eq64, Int32.reduceToInt, Int64.reduceToInt, zi_ite]); omega, rfl⟩))
    exact W.iret (v := 0) hx hb hr (fun t ht hW => ⟨0, rfl, hpost, ht⟩) (fun _ h => absurd h List.not_mem_nil) dX12_count_105
  · refine lv_tableIn (off := 105) (tgt := 106) hx hb dX12_count_1 (by rw [c_1]; decide) (by rw [c_1]; decide) (by rw [c_1]; decide) (by decide) ?_
    refine lv_aload_n hx hb dX12_count_106 rfl (lv_at hl 0 rfl) ?_
    refine va_get (D := (dC, dI)) (ci := 12) (v := .int 0) (C := RX12) (T := TX12) (N := 79) hx hb hts (by decide +kernel) hown hK hP 0 rfl rfl 34 (by decide) (hts (.fieldLink RX12 263 "RedTentModel" "parts" "I") (by decide +kernel)) (fun _ h9 => h9) rfl dX12_count_107 ?_
    have hpost : ((p0 = 11) ∧ (0 : Int32) = 1) ∨ ((0 ≤ p0 ∧ p0 ≤ 14 ∧ ¬ p0 = 11) ∧ (0 : Int32) = 0) ∨ ((¬ (0 ≤ p0 ∧ p0 ≤ 14)) ∧ (0 : Int32) = (-2)) := by
      try simp only [fa_lt, fa_le, fa_eq, fa_lt64, fa_le64, fa_eq64, Int32.reduceToInt, Int64.reduceToInt, zi_ite] at c_1
      first
      | exact Or.inl ⟨by (try simp only [fa_lt, fa_le, fa_eq, fa_lt64, fa_le64, fa_eq64, Int32.reduceToInt, Int64.reduceToInt, zi_ite]); omega, rfl⟩
      | exact Or.inr (Or.inl ⟨by (try simp only [fa_lt, fa_le, fa_eq, fa_lt64, fa_le64, fa_eq64, Int32.reduceToInt, Int64.reduceToInt, zi_ite]); omega, rfl⟩)
      | exact Or.inr (Or.inr (⟨by (try simp only [fa_lt, fa_le, fa_eq, fa_lt64, fa_le64, fa_eq64, Int32.reduceToInt, Int64.reduceToInt, zi_ite]); omega, rfl⟩))
    exact W.iret (v := 0) hx hb hr (fun t ht hW => ⟨0, rfl, hpost, ht⟩) (fun _ h => absurd h List.not_mem_nil) dX12_count_110
  · refine lv_tableIn (off := 110) (tgt := 111) hx hb dX12_count_1 (by rw [c_1]; decide) (by rw [c_1]; decide) (by rw [c_1]; decide) (by decide) ?_
    refine lv_aload_n hx hb dX12_count_111 rfl (lv_at hl 0 rfl) ?_
    refine va_get (D := (dC, dI)) (ci := 12) (v := .int 0) (C := RX12) (T := TX12) (N := 79) hx hb hts (by decide +kernel) hown hK hP 0 rfl rfl 36 (by decide) (hts (.fieldLink RX12 272 "RedTentModel" "laneMany" "I") (by decide +kernel)) (fun _ h9 => h9) rfl dX12_count_112 ?_
    have hpost : ((p0 = 11) ∧ (0 : Int32) = 1) ∨ ((0 ≤ p0 ∧ p0 ≤ 14 ∧ ¬ p0 = 11) ∧ (0 : Int32) = 0) ∨ ((¬ (0 ≤ p0 ∧ p0 ≤ 14)) ∧ (0 : Int32) = (-2)) := by
      try simp only [fa_lt, fa_le, fa_eq, fa_lt64, fa_le64, fa_eq64, Int32.reduceToInt, Int64.reduceToInt, zi_ite] at c_1
      first
      | exact Or.inl ⟨by (try simp only [fa_lt, fa_le, fa_eq, fa_lt64, fa_le64, fa_eq64, Int32.reduceToInt, Int64.reduceToInt, zi_ite]); omega, rfl⟩
      | exact Or.inr (Or.inl ⟨by (try simp only [fa_lt, fa_le, fa_eq, fa_lt64, fa_le64, fa_eq64, Int32.reduceToInt, Int64.reduceToInt, zi_ite]); omega, rfl⟩)
      | exact Or.inr (Or.inr (⟨by (try simp only [fa_lt, fa_le, fa_eq, fa_lt64, fa_le64, fa_eq64, Int32.reduceToInt, Int64.reduceToInt, zi_ite]); omega, rfl⟩))
    exact W.iret (v := 0) hx hb hr (fun t ht hW => ⟨0, rfl, hpost, ht⟩) (fun _ h => absurd h List.not_mem_nil) dX12_count_115
  · refine lv_tableIn (off := 115) (tgt := 116) hx hb dX12_count_1 (by rw [c_1]; decide) (by rw [c_1]; decide) (by rw [c_1]; decide) (by decide) ?_
    refine lv_aload_n hx hb dX12_count_116 rfl (lv_at hl 0 rfl) ?_
    refine va_get (D := (dC, dI)) (ci := 12) (v := .int 0) (C := RX12) (T := TX12) (N := 79) hx hb hts (by decide +kernel) hown hK hP 0 rfl rfl 44 (by decide) (hts (.fieldLink RX12 320 "RedTentModel" "men" "I") (by decide +kernel)) (fun _ h9 => h9) rfl dX12_count_117 ?_
    have hpost : ((p0 = 11) ∧ (0 : Int32) = 1) ∨ ((0 ≤ p0 ∧ p0 ≤ 14 ∧ ¬ p0 = 11) ∧ (0 : Int32) = 0) ∨ ((¬ (0 ≤ p0 ∧ p0 ≤ 14)) ∧ (0 : Int32) = (-2)) := by
      try simp only [fa_lt, fa_le, fa_eq, fa_lt64, fa_le64, fa_eq64, Int32.reduceToInt, Int64.reduceToInt, zi_ite] at c_1
      first
      | exact Or.inl ⟨by (try simp only [fa_lt, fa_le, fa_eq, fa_lt64, fa_le64, fa_eq64, Int32.reduceToInt, Int64.reduceToInt, zi_ite]); omega, rfl⟩
      | exact Or.inr (Or.inl ⟨by (try simp only [fa_lt, fa_le, fa_eq, fa_lt64, fa_le64, fa_eq64, Int32.reduceToInt, Int64.reduceToInt, zi_ite]); omega, rfl⟩)
      | exact Or.inr (Or.inr (⟨by (try simp only [fa_lt, fa_le, fa_eq, fa_lt64, fa_le64, fa_eq64, Int32.reduceToInt, Int64.reduceToInt, zi_ite]); omega, rfl⟩))
    exact W.iret (v := 0) hx hb hr (fun t ht hW => ⟨0, rfl, hpost, ht⟩) (fun _ h => absurd h List.not_mem_nil) dX12_count_120
  · refine lv_tableIn (off := 120) (tgt := 121) hx hb dX12_count_1 (by rw [c_1]; decide) (by rw [c_1]; decide) (by rw [c_1]; decide) (by decide) ?_
    refine lv_aload_n hx hb dX12_count_121 rfl (lv_at hl 0 rfl) ?_
    refine va_get (D := (dC, dI)) (ci := 12) (v := .int 0) (C := RX12) (T := TX12) (N := 79) hx hb hts (by decide +kernel) hown hK hP 0 rfl rfl 48 (by decide) (hts (.fieldLink RX12 440 "RedTentModel" "stories" "I") (by decide +kernel)) (fun _ h9 => h9) rfl dX12_count_122 ?_
    have hpost : ((p0 = 11) ∧ (0 : Int32) = 1) ∨ ((0 ≤ p0 ∧ p0 ≤ 14 ∧ ¬ p0 = 11) ∧ (0 : Int32) = 0) ∨ ((¬ (0 ≤ p0 ∧ p0 ≤ 14)) ∧ (0 : Int32) = (-2)) := by
      try simp only [fa_lt, fa_le, fa_eq, fa_lt64, fa_le64, fa_eq64, Int32.reduceToInt, Int64.reduceToInt, zi_ite] at c_1
      first
      | exact Or.inl ⟨by (try simp only [fa_lt, fa_le, fa_eq, fa_lt64, fa_le64, fa_eq64, Int32.reduceToInt, Int64.reduceToInt, zi_ite]); omega, rfl⟩
      | exact Or.inr (Or.inl ⟨by (try simp only [fa_lt, fa_le, fa_eq, fa_lt64, fa_le64, fa_eq64, Int32.reduceToInt, Int64.reduceToInt, zi_ite]); omega, rfl⟩)
      | exact Or.inr (Or.inr (⟨by (try simp only [fa_lt, fa_le, fa_eq, fa_lt64, fa_le64, fa_eq64, Int32.reduceToInt, Int64.reduceToInt, zi_ite]); omega, rfl⟩))
    exact W.iret (v := 0) hx hb hr (fun t ht hW => ⟨0, rfl, hpost, ht⟩) (fun _ h => absurd h List.not_mem_nil) dX12_count_125
  · refine lv_tableIn (off := 125) (tgt := 126) hx hb dX12_count_1 (by rw [c_1]; decide) (by rw [c_1]; decide) (by rw [c_1]; decide) (by decide) ?_
    refine lv_aload_n hx hb dX12_count_126 rfl (lv_at hl 0 rfl) ?_
    refine va_get (D := (dC, dI)) (ci := 12) (v := .int 0) (C := RX12) (T := TX12) (N := 79) hx hb hts (by decide +kernel) hown hK hP 0 rfl rfl 50 (by decide) (hts (.fieldLink RX12 448 "RedTentModel" "rows" "I") (by decide +kernel)) (fun _ h9 => h9) rfl dX12_count_127 ?_
    have hpost : ((p0 = 11) ∧ (0 : Int32) = 1) ∨ ((0 ≤ p0 ∧ p0 ≤ 14 ∧ ¬ p0 = 11) ∧ (0 : Int32) = 0) ∨ ((¬ (0 ≤ p0 ∧ p0 ≤ 14)) ∧ (0 : Int32) = (-2)) := by
      try simp only [fa_lt, fa_le, fa_eq, fa_lt64, fa_le64, fa_eq64, Int32.reduceToInt, Int64.reduceToInt, zi_ite] at c_1
      first
      | exact Or.inl ⟨by (try simp only [fa_lt, fa_le, fa_eq, fa_lt64, fa_le64, fa_eq64, Int32.reduceToInt, Int64.reduceToInt, zi_ite]); omega, rfl⟩
      | exact Or.inr (Or.inl ⟨by (try simp only [fa_lt, fa_le, fa_eq, fa_lt64, fa_le64, fa_eq64, Int32.reduceToInt, Int64.reduceToInt, zi_ite]); omega, rfl⟩)
      | exact Or.inr (Or.inr (⟨by (try simp only [fa_lt, fa_le, fa_eq, fa_lt64, fa_le64, fa_eq64, Int32.reduceToInt, Int64.reduceToInt, zi_ite]); omega, rfl⟩))
    exact W.iret (v := 0) hx hb hr (fun t ht hW => ⟨0, rfl, hpost, ht⟩) (fun _ h => absurd h List.not_mem_nil) dX12_count_130
  · refine lv_tableIn (off := 130) (tgt := 131) hx hb dX12_count_1 (by rw [c_1]; decide) (by rw [c_1]; decide) (by rw [c_1]; decide) (by decide) ?_
    refine lv_aload_n hx hb dX12_count_131 rfl (lv_at hl 0 rfl) ?_
    refine va_get (D := (dC, dI)) (ci := 12) (v := .int 1) (C := RX12) (T := TX12) (N := 79) hx hb hts (by decide +kernel) hown hK hP 0 rfl rfl 55 (by decide) (hts (.fieldLink RX12 182 "RedTentModel" "texts" "I") (by decide +kernel)) (fun _ h9 => h9) rfl dX12_count_132 ?_
    have hpost : ((p0 = 11) ∧ (1 : Int32) = 1) ∨ ((0 ≤ p0 ∧ p0 ≤ 14 ∧ ¬ p0 = 11) ∧ (1 : Int32) = 0) ∨ ((¬ (0 ≤ p0 ∧ p0 ≤ 14)) ∧ (1 : Int32) = (-2)) := by
      try simp only [fa_lt, fa_le, fa_eq, fa_lt64, fa_le64, fa_eq64, Int32.reduceToInt, Int64.reduceToInt, zi_ite] at c_1
      first
      | exact Or.inl ⟨by (try simp only [fa_lt, fa_le, fa_eq, fa_lt64, fa_le64, fa_eq64, Int32.reduceToInt, Int64.reduceToInt, zi_ite]); omega, rfl⟩
      | exact Or.inr (Or.inl ⟨by (try simp only [fa_lt, fa_le, fa_eq, fa_lt64, fa_le64, fa_eq64, Int32.reduceToInt, Int64.reduceToInt, zi_ite]); omega, rfl⟩)
      | exact Or.inr (Or.inr (⟨by (try simp only [fa_lt, fa_le, fa_eq, fa_lt64, fa_le64, fa_eq64, Int32.reduceToInt, Int64.reduceToInt, zi_ite]); omega, rfl⟩))
    exact W.iret (v := 1) hx hb hr (fun t ht hW => ⟨1, rfl, hpost, ht⟩) (fun _ h => absurd h List.not_mem_nil) dX12_count_135
  · refine lv_tableIn (off := 135) (tgt := 136) hx hb dX12_count_1 (by rw [c_1]; decide) (by rw [c_1]; decide) (by rw [c_1]; decide) (by decide) ?_
    refine lv_aload_n hx hb dX12_count_136 rfl (lv_at hl 0 rfl) ?_
    refine va_get (D := (dC, dI)) (ci := 12) (v := .int 0) (C := RX12) (T := TX12) (N := 79) hx hb hts (by decide +kernel) hown hK hP 0 rfl rfl 52 (by decide) (hts (.fieldLink RX12 323 "RedTentModel" "tapeMany" "I") (by decide +kernel)) (fun _ h9 => h9) rfl dX12_count_137 ?_
    have hpost : ((p0 = 11) ∧ (0 : Int32) = 1) ∨ ((0 ≤ p0 ∧ p0 ≤ 14 ∧ ¬ p0 = 11) ∧ (0 : Int32) = 0) ∨ ((¬ (0 ≤ p0 ∧ p0 ≤ 14)) ∧ (0 : Int32) = (-2)) := by
      try simp only [fa_lt, fa_le, fa_eq, fa_lt64, fa_le64, fa_eq64, Int32.reduceToInt, Int64.reduceToInt, zi_ite] at c_1
      first
      | exact Or.inl ⟨by (try simp only [fa_lt, fa_le, fa_eq, fa_lt64, fa_le64, fa_eq64, Int32.reduceToInt, Int64.reduceToInt, zi_ite]); omega, rfl⟩
      | exact Or.inr (Or.inl ⟨by (try simp only [fa_lt, fa_le, fa_eq, fa_lt64, fa_le64, fa_eq64, Int32.reduceToInt, Int64.reduceToInt, zi_ite]); omega, rfl⟩)
      | exact Or.inr (Or.inr (⟨by (try simp only [fa_lt, fa_le, fa_eq, fa_lt64, fa_le64, fa_eq64, Int32.reduceToInt, Int64.reduceToInt, zi_ite]); omega, rfl⟩))
    exact W.iret (v := 0) hx hb hr (fun t ht hW => ⟨0, rfl, hpost, ht⟩) (fun _ h => absurd h List.not_mem_nil) dX12_count_140
  · refine lv_tableIn (off := 140) (tgt := 141) hx hb dX12_count_1 (by rw [c_1]; decide) (by rw [c_1]; decide) (by rw [c_1]; decide) (by decide) ?_
    refine lv_aload_n hx hb dX12_count_141 rfl (lv_at hl 0 rfl) ?_
    refine va_get (D := (dC, dI)) (ci := 12) (v := .int 0) (C := RX12) (T := TX12) (N := 79) hx hb hts (by decide +kernel) hown hK hP 0 rfl rfl 56 (by decide) (hts (.fieldLink RX12 431 "RedTentModel" "order" "I") (by decide +kernel)) (fun _ h9 => h9) rfl dX12_count_142 ?_
    have hpost : ((p0 = 11) ∧ (0 : Int32) = 1) ∨ ((0 ≤ p0 ∧ p0 ≤ 14 ∧ ¬ p0 = 11) ∧ (0 : Int32) = 0) ∨ ((¬ (0 ≤ p0 ∧ p0 ≤ 14)) ∧ (0 : Int32) = (-2)) := by
      try simp only [fa_lt, fa_le, fa_eq, fa_lt64, fa_le64, fa_eq64, Int32.reduceToInt, Int64.reduceToInt, zi_ite] at c_1
      first
      | exact Or.inl ⟨by (try simp only [fa_lt, fa_le, fa_eq, fa_lt64, fa_le64, fa_eq64, Int32.reduceToInt, Int64.reduceToInt, zi_ite]); omega, rfl⟩
      | exact Or.inr (Or.inl ⟨by (try simp only [fa_lt, fa_le, fa_eq, fa_lt64, fa_le64, fa_eq64, Int32.reduceToInt, Int64.reduceToInt, zi_ite]); omega, rfl⟩)
      | exact Or.inr (Or.inr (⟨by (try simp only [fa_lt, fa_le, fa_eq, fa_lt64, fa_le64, fa_eq64, Int32.reduceToInt, Int64.reduceToInt, zi_ite]); omega, rfl⟩))
    exact W.iret (v := 0) hx hb hr (fun t ht hW => ⟨0, rfl, hpost, ht⟩) (fun _ h => absurd h List.not_mem_nil) dX12_count_145
  · refine lv_tableIn (off := 145) (tgt := 146) hx hb dX12_count_1 (by rw [c_1]; decide) (by rw [c_1]; decide) (by rw [c_1]; decide) (by decide) ?_
    refine lv_aload_n hx hb dX12_count_146 rfl (lv_at hl 0 rfl) ?_
    refine va_get (D := (dC, dI)) (ci := 12) (v := .int 0) (C := RX12) (T := TX12) (N := 79) hx hb hts (by decide +kernel) hown hK hP 0 rfl rfl 1 (by decide) (hts (.fieldLink RX12 307 "RedTentModel" "stay" "I") (by decide +kernel)) (fun _ h9 => h9) rfl dX12_count_147 ?_
    have hpost : ((p0 = 11) ∧ (0 : Int32) = 1) ∨ ((0 ≤ p0 ∧ p0 ≤ 14 ∧ ¬ p0 = 11) ∧ (0 : Int32) = 0) ∨ ((¬ (0 ≤ p0 ∧ p0 ≤ 14)) ∧ (0 : Int32) = (-2)) := by
      try simp only [fa_lt, fa_le, fa_eq, fa_lt64, fa_le64, fa_eq64, Int32.reduceToInt, Int64.reduceToInt, zi_ite] at c_1
      first
      | exact Or.inl ⟨by (try simp only [fa_lt, fa_le, fa_eq, fa_lt64, fa_le64, fa_eq64, Int32.reduceToInt, Int64.reduceToInt, zi_ite]); omega, rfl⟩
      | exact Or.inr (Or.inl ⟨by (try simp only [fa_lt, fa_le, fa_eq, fa_lt64, fa_le64, fa_eq64, Int32.reduceToInt, Int64.reduceToInt, zi_ite]); omega, rfl⟩)
      | exact Or.inr (Or.inr (⟨by (try simp only [fa_lt, fa_le, fa_eq, fa_lt64, fa_le64, fa_eq64, Int32.reduceToInt, Int64.reduceToInt, zi_ite]); omega, rfl⟩))
    exact W.iret (v := 0) hx hb hr (fun t ht hW => ⟨0, rfl, hpost, ht⟩) (fun _ h => absurd h List.not_mem_nil) dX12_count_150

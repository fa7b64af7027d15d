set_option maxRecDepth 20000 in
theorem wL_X0 : GoodIn lw_tbl wsX00 := goodIn_q _ [(2, 228), (2, 230), (2, 232), (2, 234), (2, 236), (2, 238), (3, 0), (3, 2), (3, 4), (3, 6), (3, 8), (3, 10), (3, 12), (3, 14), (3, 16)] (by decide +kernel) (by decide +kernel)
theorem inX_X0 : ∀ w ∈ wsX00, w ∈ lw_tbl := fun w h => (wL_X0 w h).1
set_option maxRecDepth 20000 in
theorem wL_X1 : GoodIn lw_tbl wsX10 := goodIn_q _ [(2, 67), (2, 69), (2, 71), (2, 73)] (by decide +kernel) (by decide +kernel)
theorem inX_X1 : ∀ w ∈ wsX10, w ∈ lw_tbl := fun w h => (wL_X1 w h).1
set_option maxRecDepth 20000 in
theorem wL_X2 : GoodIn lw_tbl wsX20 := goodIn_q _ [(1, 153), (1, 155), (1, 157), (1, 159), (1, 161), (1, 163)] (by decide +kernel) (by decide +kernel)
theorem inX_X2 : ∀ w ∈ wsX20, w ∈ lw_tbl := fun w h => (wL_X2 w h).1
set_option maxRecDepth 20000 in
theorem wL_X3 : GoodIn lw_tbl wsX30 := goodIn_q _ [(2, 12), (2, 14), (2, 16), (2, 18), (2, 20), (2, 22), (2, 24), (2, 26)] (by decide +kernel) (by decide +kernel)
theorem inX_X3 : ∀ w ∈ wsX30, w ∈ lw_tbl := fun w h => (wL_X3 w h).1
set_option maxRecDepth 20000 in
theorem wL_X4 : GoodIn lw_tbl wsX40 := goodIn_q _ [(1, 77), (1, 79), (1, 81), (1, 83), (1, 85), (1, 87), (1, 89), (1, 91), (1, 93), (1, 95), (1, 97), (1, 99), (1, 101)] (by decide +kernel) (by decide +kernel)
theorem inX_X4 : ∀ w ∈ wsX40, w ∈ lw_tbl := fun w h => (wL_X4 w h).1
set_option maxRecDepth 20000 in
theorem wL_X5 : GoodIn lw_tbl wsX50 := goodIn_q _ [(1, 207), (1, 209), (1, 211), (1, 213), (1, 215), (1, 217), (1, 219), (1, 221)] (by decide +kernel) (by decide +kernel)
theorem inX_X5 : ∀ w ∈ wsX50, w ∈ lw_tbl := fun w h => (wL_X5 w h).1
set_option maxRecDepth 20000 in
theorem wL_X6 : GoodIn lw_tbl wsX60 := goodIn_q _ [(1, 120), (1, 122), (1, 124), (1, 126), (1, 128), (1, 130), (1, 132)] (by decide +kernel) (by decide +kernel)
theorem inX_X6 : ∀ w ∈ wsX60, w ∈ lw_tbl := fun w h => (wL_X6 w h).1
set_option maxRecDepth 20000 in
theorem wL_X7 : GoodIn lw_tbl wsX70 := goodIn_q _ [(2, 88), (2, 90), (2, 92)] (by decide +kernel) (by decide +kernel)
theorem inX_X7 : ∀ w ∈ wsX70, w ∈ lw_tbl := fun w h => (wL_X7 w h).1
set_option maxRecDepth 20000 in
theorem wL_X8 : GoodIn lw_tbl wsX80 := goodIn_q _ [(2, 43), (2, 45), (2, 47), (2, 49)] (by decide +kernel) (by decide +kernel)
theorem inX_X8 : ∀ w ∈ wsX80, w ∈ lw_tbl := fun w h => (wL_X8 w h).1
set_option maxRecDepth 20000 in
theorem wL_X9 : GoodIn lw_tbl wsX90 := goodIn_q _ [(1, 191), (1, 193), (1, 195)] (by decide +kernel) (by decide +kernel)
theorem inX_X9 : ∀ w ∈ wsX90, w ∈ lw_tbl := fun w h => (wL_X9 w h).1
set_option maxRecDepth 20000 in
theorem wL_X10 : GoodIn lw_tbl wsX100 := goodIn_q _ [(1, 41), (1, 43), (1, 45), (1, 47)] (by decide +kernel) (by decide +kernel)
theorem inX_X10 : ∀ w ∈ wsX100, w ∈ lw_tbl := fun w h => (wL_X10 w h).1
set_option maxRecDepth 20000 in
theorem wL_X11 : GoodIn lw_tbl wsX110 := goodIn_q _ [(2, 108), (2, 110), (2, 112), (2, 114), (2, 116), (2, 118), (2, 120), (2, 122), (2, 124), (2, 126), (2, 128), (2, 130), (2, 132)] (by decide +kernel) (by decide +kernel)
theorem inX_X11 : ∀ w ∈ wsX110, w ∈ lw_tbl := fun w h => (wL_X11 w h).1
set_option maxRecDepth 20000 in
theorem wL_X12 : GoodIn lw_tbl wsX120 := goodIn_q _ [(5, 199), (5, 201), (5, 203), (5, 205), (5, 207), (5, 209), (5, 211), (5, 213), (5, 215), (5, 217), (5, 219), (5, 221), (5, 223), (5, 225), (5, 227), (5, 229), (5, 231), (5, 233), (5, 235), (5, 237), (5, 239), (6, 1), (6, 3), (6, 5), (6, 7), (6, 9), (6, 11), (6, 13), (6, 15), (6, 17), (6, 19), (6, 21), (6, 23), (6, 25), (6, 27), (6, 29), (6, 31), (6, 33), (6, 35), (6, 37), (6, 39), (6, 41), (6, 43), (6, 45), (6, 47), (6, 49), (6, 51), (6, 53), (6, 55), (6, 57), (6, 59), (6, 61), (6, 63), (6, 65), (6, 67), (6, 69), (6, 71), (6, 73), (6, 75), (6, 77), (6, 79), (6, 81), (6, 83), (6, 85), (6, 87), (6, 89), (6, 91), (6, 93), (6, 95), (6, 97), (6, 99), (6, 101), (6, 103), (6, 105), (6, 107), (6, 109), (6, 111), (6, 113), (6, 115)] (by decide +kernel) (by decide +kernel)
theorem inX_X12 : ∀ w ∈ wsX120, w ∈ lw_tbl := fun w h => (wL_X12 w h).1
theorem dL_law_0 : decode cL_law 0 = .ok (.new 7, 3) := by decide +kernel
theorem dL_law_3 : decode cL_law 3 = .ok (.dup, 1) := by decide +kernel
set_option maxRecDepth 20000 in
theorem gT_X11_init : GoodIn lw_tbl wsX11_init := goodIn_q _ [(1, 25), (1, 26), (1, 27), (1, 28), (1, 29), (1, 30), (1, 2), (2, 95), (1, 51), (2, 96), (1, 53), (1, 54), (1, 3), (2, 97), (1, 105), (1, 106), (1, 4), (2, 98), (1, 135), (1, 136), (1, 5), (2, 99), (1, 166), (1, 167), (1, 6), (2, 100), (2, 29), (2, 30), (1, 9), (2, 101), (2, 52), (2, 53), (1, 10), (2, 102), (2, 76), (2, 103), (2, 78), (1, 11), (1, 31), (1, 32), (1, 33), (1, 34), (1, 50), (1, 35), (1, 36), (1, 56), (1, 57), (1, 58), (1, 59), (1, 62), (1, 63), (1, 64), (1, 66), (1, 67), (1, 104), (1, 69), (1, 72), (1, 73), (1, 74), (1, 108), (1, 109), (1, 110), (1, 111), (1, 114), (1, 116), (1, 117), (1, 138), (1, 139), (1, 140), (1, 141), (1, 143), (1, 145), (1, 147), (1, 149), (1, 168), (1, 169), (1, 170), (1, 171), (2, 1), (1, 172), (2, 4), (1, 174), (1, 175), (1, 7), (2, 9), (2, 10), (2, 11), (1, 181), (1, 8), (2, 5), (1, 177), (1, 178), (1, 179), (1, 198), (1, 200), (1, 201), (1, 202), (1, 180), (1, 203), (1, 183), (1, 184), (1, 185), (1, 186), (1, 225), (1, 226), (1, 227), (1, 228), (1, 233), (1, 187), (1, 189), (1, 239), (1, 229), (1, 230), (1, 231), (1, 232), (1, 235), (1, 236), (1, 237), (1, 238), (2, 32), (2, 33), (2, 34), (2, 35), (2, 37), (2, 39), (2, 55), (2, 56), (2, 57), (2, 58), (2, 60), (2, 80), (2, 81), (2, 82), (2, 83), (2, 85), (1, 41), (1, 43), (1, 45), (1, 47), (2, 108), (2, 110), (2, 112), (2, 114), (2, 116), (2, 118), (2, 120), (2, 122), (2, 124), (2, 126), (2, 128), (2, 130), (2, 132), (1, 77), (1, 79), (1, 81), (1, 83), (1, 85), (1, 87), (1, 89), (1, 91), (1, 93), (1, 95), (1, 97), (1, 99), (1, 101), (1, 120), (1, 122), (1, 124), (1, 126), (1, 128), (1, 130), (1, 132), (1, 153), (1, 155), (1, 157), (1, 159), (1, 161), (1, 163), (2, 12), (2, 14), (2, 16), (2, 18), (2, 20), (2, 22), (2, 24), (2, 26), (2, 43), (2, 45), (2, 47), (2, 49), (2, 67), (2, 69), (2, 71), (2, 73), (2, 88), (2, 90), (2, 92), (1, 207), (1, 209), (1, 211), (1, 213), (1, 215), (1, 217), (1, 219), (1, 221), (1, 191), (1, 193), (1, 195)] (by decide +kernel) (by decide +kernel)
theorem gL_law_X11_init : GoodIn lw_tbl (wsX11_init) := gT_X11_init
theorem dL_law_4 : decode cL_law 4 = .ok (.invokespecial 9, 3) := by decide +kernel
theorem dL_law_7 : decode cL_law 7 = .ok (.astore_n 1, 1) := by decide +kernel
theorem dL_law_8 : decode cL_law 8 = .ok (.new 10, 3) := by decide +kernel
theorem dL_law_11 : decode cL_law 11 = .ok (.dup, 1) := by decide +kernel
set_option maxRecDepth 20000 in
theorem gT_X12_init : GoodIn lw_tbl wsX12_init := goodIn_q _ [(5, 115), (5, 116), (1, 27), (1, 28), (1, 50), (5, 122), (5, 123), (5, 124), (5, 126), (5, 127), (5, 128), (5, 130), (5, 131), (5, 132), (5, 133), (5, 134), (5, 135), (5, 137), (5, 138), (1, 104), (5, 139), (5, 140), (5, 142), (5, 144), (5, 145), (5, 146), (5, 147), (5, 148), (5, 149), (5, 151), (5, 152), (5, 153), (5, 155), (5, 157), (5, 158), (5, 159), (5, 160), (5, 161), (5, 162), (5, 163), (5, 165), (5, 166), (5, 167), (5, 169), (5, 171), (5, 173), (5, 174), (5, 177), (5, 179), (5, 180), (5, 188), (5, 191), (5, 192), (5, 193), (5, 194), (5, 195), (5, 196), (5, 197), (5, 198), (5, 175), (5, 118), (4, 96), (4, 97), (1, 13), (4, 98), (7, 232), (4, 99), (4, 100), (4, 101), (4, 102), (4, 103), (7, 233), (5, 119), (4, 106), (4, 107), (4, 108), (4, 109), (4, 110), (4, 111), (4, 112), (4, 113), (4, 114), (1, 14), (4, 115), (4, 116), (4, 117), (4, 118), (4, 119), (4, 121), (4, 122), (1, 15), (4, 123), (4, 124), (4, 125), (1, 16), (4, 126), (4, 127), (4, 128), (4, 129), (4, 130), (4, 131), (4, 132), (4, 133), (4, 134), (4, 135), (4, 136), (4, 137), (4, 139), (4, 141), (5, 199), (5, 201), (5, 203), (5, 205), (5, 207), (5, 209), (5, 211), (5, 213), (5, 215), (5, 217), (5, 219), (5, 221), (5, 223), (5, 225), (5, 227), (5, 229), (5, 231), (5, 233), (5, 235), (5, 237), (5, 239), (6, 1), (6, 3), (6, 5), (6, 7), (6, 9), (6, 11), (6, 13), (6, 15), (6, 17), (6, 19), (6, 21), (6, 23), (6, 25), (6, 27), (6, 29), (6, 31), (6, 33), (6, 35), (6, 37), (6, 39), (6, 41), (6, 43), (6, 45), (6, 47), (6, 49), (6, 51), (6, 53), (6, 55), (6, 57), (6, 59), (6, 61), (6, 63), (6, 65), (6, 67), (6, 69), (6, 71), (6, 73), (6, 75), (6, 77), (6, 79), (6, 81), (6, 83), (6, 85), (6, 87), (6, 89), (6, 91), (6, 93), (6, 95), (6, 97), (6, 99), (6, 101), (6, 103), (6, 105), (6, 107), (6, 109), (6, 111), (6, 113), (6, 115)] (by decide +kernel) (by decide +kernel)
theorem gL_law_X12_init : GoodIn lw_tbl (wsX12_init) := gT_X12_init
theorem dL_law_12 : decode cL_law 12 = .ok (.invokespecial 12, 3) := by decide +kernel
theorem dL_law_15 : decode cL_law 15 = .ok (.astore_n 2, 1) := by decide +kernel
theorem dL_law_16 : decode cL_law 16 = .ok (.iconst 0, 1) := by decide +kernel
theorem dL_law_17 : decode cL_law 17 = .ok (.istore_n 3, 1) := by decide +kernel
theorem dL_law_27 : decode cL_law 27 = .ok (.aload_n 0, 1) := by decide +kernel
theorem dL_law_28 : decode cL_law 28 = .ok (.iload_n 3, 1) := by decide +kernel
theorem dL_law_29 : decode cL_law 29 = .ok (.iaload, 1) := by decide +kernel
theorem dL_law_30 : decode cL_law 30 = .ok (.bipush 63, 2) := by decide +kernel
theorem dL_law_32 : decode cL_law 32 = .ok (.iand, 1) := by decide +kernel
theorem dL_law_33 : decode cL_law 33 = .ok (.tableswitch 1804 0 37 #[167, 190, 233, 276, 339, 372, 416, 489, 512, 565, 638, 671, 754, 787, 810, 863, 906, 950, 1003, 1026, 1079, 1122, 1175, 1238, 1251, 1274, 1318, 1351, 1394, 1407, 1440, 1493, 1536, 1559, 1602, 1645, 1708, 1771], 167) := by decide +kernel

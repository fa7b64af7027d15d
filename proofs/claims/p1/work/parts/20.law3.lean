theorem dL_law_1351 : decode cL_law 1351 = .ok (.aload_n 1, 1) := by decide +kernel
theorem dL_law_1352 : decode cL_law 1352 = .ok (.aload_n 0, 1) := by decide +kernel
theorem dL_law_1353 : decode cL_law 1353 = .ok (.iload_n 3, 1) := by decide +kernel
theorem dL_law_1354 : decode cL_law 1354 = .ok (.iconst 1, 1) := by decide +kernel
theorem dL_law_1355 : decode cL_law 1355 = .ok (.iadd, 1) := by decide +kernel
theorem dL_law_1356 : decode cL_law 1356 = .ok (.iaload, 1) := by decide +kernel
theorem dL_law_1357 : decode cL_law 1357 = .ok (.aload_n 0, 1) := by decide +kernel
theorem dL_law_1358 : decode cL_law 1358 = .ok (.iload_n 3, 1) := by decide +kernel
theorem dL_law_1359 : decode cL_law 1359 = .ok (.iconst 2, 1) := by decide +kernel
theorem dL_law_1360 : decode cL_law 1360 = .ok (.iadd, 1) := by decide +kernel
theorem dL_law_1361 : decode cL_law 1361 = .ok (.iaload, 1) := by decide +kernel
set_option maxRecDepth 20000 in
theorem gT_X11_first : GoodIn lw_tbl wsX11_first := goodIn_q _ [(5, 1), (2, 99), (1, 152), (1, 150), (2, 139), (2, 141), (0, 0), (1, 1), (2, 142), (2, 105), (2, 96), (4, 209), (4, 211), (0, 24), (4, 212), (1, 142), (2, 212), (2, 100), (1, 144), (1, 146), (1, 148), (2, 104), (4, 213), (4, 214), (4, 215), (1, 6), (4, 216), (2, 10), (2, 4), (2, 7), (2, 11), (4, 217), (4, 218), (4, 219), (1, 8), (4, 220), (1, 189), (1, 187), (1, 186), (4, 221), (4, 222), (4, 223), (4, 224), (4, 225), (4, 226), (4, 227), (4, 228), (4, 229), (4, 230), (4, 231), (4, 232), (5, 2), (5, 3), (5, 4), (1, 5), (5, 5), (1, 151), (1, 141), (5, 6), (5, 8), (0, 25), (5, 9), (1, 149), (2, 108), (2, 110), (2, 112), (2, 114), (2, 116), (2, 118), (2, 120), (2, 122), (2, 124), (2, 126), (2, 128), (2, 130), (2, 132), (1, 153), (1, 155), (1, 157), (1, 159), (1, 161), (1, 163), (2, 228), (2, 230), (2, 232), (2, 234), (2, 236), (2, 238), (3, 0), (3, 2), (3, 4), (3, 6), (3, 8), (3, 10), (3, 12), (3, 14), (3, 16), (2, 12), (2, 14), (2, 16), (2, 18), (2, 20), (2, 22), (2, 24), (2, 26), (1, 191), (1, 193), (1, 195)] (by decide +kernel) (by decide +kernel)
set_option maxRecDepth 20000 in
theorem gL_law_X11_first : GoodIn lw_tbl (wsV RL 130 RX11 yX11_first wsX11_first) := goodIn_app (goodIn_q _ [(4, 238), (4, 239), (5, 0), (1, 1)] (by decide +kernel) (by decide +kernel)) gT_X11_first
theorem dL_law_1362 : decode cL_law 1362 = .ok (.invokevirtual 130, 3) := by decide +kernel
theorem dL_law_1365 : decode cL_law 1365 = .ok (.aload_n 2, 1) := by decide +kernel
theorem dL_law_1366 : decode cL_law 1366 = .ok (.aload_n 0, 1) := by decide +kernel
theorem dL_law_1367 : decode cL_law 1367 = .ok (.iload_n 3, 1) := by decide +kernel
theorem dL_law_1368 : decode cL_law 1368 = .ok (.iconst 1, 1) := by decide +kernel
theorem dL_law_1369 : decode cL_law 1369 = .ok (.iadd, 1) := by decide +kernel
theorem dL_law_1370 : decode cL_law 1370 = .ok (.iaload, 1) := by decide +kernel
theorem dL_law_1371 : decode cL_law 1371 = .ok (.aload_n 0, 1) := by decide +kernel
theorem dL_law_1372 : decode cL_law 1372 = .ok (.iload_n 3, 1) := by decide +kernel
theorem dL_law_1373 : decode cL_law 1373 = .ok (.iconst 2, 1) := by decide +kernel
theorem dL_law_1374 : decode cL_law 1374 = .ok (.iadd, 1) := by decide +kernel
theorem dL_law_1375 : decode cL_law 1375 = .ok (.iaload, 1) := by decide +kernel
set_option maxRecDepth 20000 in
theorem gT_X12_first : GoodIn lw_tbl wsX12_first := goodIn_q _ [(7, 165), (5, 164), (5, 160), (5, 191), (5, 192), (6, 151), (6, 153), (0, 30), (1, 12), (6, 154), (5, 136), (7, 154), (7, 156), (0, 58), (7, 157), (5, 188), (5, 161), (5, 162), (5, 163), (5, 120), (5, 135), (5, 176), (5, 174), (5, 189), (7, 67), (7, 69), (0, 43), (7, 70), (5, 182), (5, 183), (5, 185), (5, 186), (5, 187), (5, 190), (5, 184), (7, 71), (7, 73), (0, 44), (7, 74), (7, 75), (7, 77), (0, 45), (7, 78), (5, 171), (5, 173), (7, 79), (7, 81), (0, 46), (7, 82), (6, 122), (6, 123), (6, 124), (7, 83), (7, 85), (0, 47), (7, 86), (7, 88), (7, 90), (0, 48), (7, 91), (7, 92), (7, 94), (0, 49), (7, 95), (5, 118), (4, 96), (4, 97), (1, 13), (4, 98), (7, 232), (4, 99), (4, 100), (4, 101), (4, 102), (4, 103), (7, 233), (5, 119), (4, 106), (4, 107), (4, 108), (4, 109), (4, 110), (4, 111), (4, 112), (4, 113), (4, 114), (1, 14), (4, 115), (4, 116), (4, 117), (4, 118), (4, 119), (4, 121), (4, 122), (1, 15), (4, 123), (4, 124), (4, 125), (1, 16), (4, 126), (4, 127), (4, 128), (4, 129), (4, 130), (4, 131), (4, 132), (4, 133), (4, 134), (4, 135), (4, 136), (4, 137), (4, 139), (4, 141), (7, 96), (7, 98), (0, 50), (7, 99), (7, 100), (7, 102), (0, 51), (7, 103), (7, 104), (7, 106), (0, 52), (7, 128), (7, 109), (7, 111), (0, 53), (7, 112), (7, 113), (7, 115), (0, 54), (7, 116), (7, 125), (7, 127), (0, 57), (7, 124), (7, 120), (7, 121), (7, 123), (0, 56), (7, 107), (7, 117), (7, 119), (0, 55), (5, 199), (5, 201), (5, 203), (5, 205), (5, 207), (5, 209), (5, 211), (5, 213), (5, 215), (5, 217), (5, 219), (5, 221), (5, 223), (5, 225), (5, 227), (5, 229), (5, 231), (5, 233), (5, 235), (5, 237), (5, 239), (6, 1), (6, 3), (6, 5), (6, 7), (6, 9), (6, 11), (6, 13), (6, 15), (6, 17), (6, 19), (6, 21), (6, 23), (6, 25), (6, 27), (6, 29), (6, 31), (6, 33), (6, 35), (6, 37), (6, 39), (6, 41), (6, 43), (6, 45), (6, 47), (6, 49), (6, 51), (6, 53), (6, 55), (6, 57), (6, 59), (6, 61), (6, 63), (6, 65), (6, 67), (6, 69), (6, 71), (6, 73), (6, 75), (6, 77), (6, 79), (6, 81), (6, 83), (6, 85), (6, 87), (6, 89), (6, 91), (6, 93), (6, 95), (6, 97), (6, 99), (6, 101), (6, 103), (6, 105), (6, 107), (6, 109), (6, 111), (6, 113), (6, 115)] (by decide +kernel) (by decide +kernel)
set_option maxRecDepth 20000 in
theorem gL_law_X12_first : GoodIn lw_tbl (wsV RL 133 RX12 yX12_first wsX12_first) := goodIn_app (goodIn_q _ [(7, 162), (7, 163), (7, 164), (1, 12)] (by decide +kernel) (by decide +kernel)) gT_X12_first
theorem dL_law_1376 : decode cL_law 1376 = .ok (.invokevirtual 133, 3) := by decide +kernel
theorem dL_law_1379 : decode cL_law 1379 = .ok (.if_icmp .eq 458, 3) := by decide +kernel
theorem dL_law_1384 : decode cL_law 1384 = .ok (.aload_n 1, 1) := by decide +kernel
theorem dL_law_1385 : decode cL_law 1385 = .ok (.aload_n 0, 1) := by decide +kernel
theorem dL_law_1386 : decode cL_law 1386 = .ok (.iload_n 3, 1) := by decide +kernel
theorem dL_law_1387 : decode cL_law 1387 = .ok (.iconst 1, 1) := by decide +kernel
theorem dL_law_1388 : decode cL_law 1388 = .ok (.iadd, 1) := by decide +kernel
theorem dL_law_1389 : decode cL_law 1389 = .ok (.iaload, 1) := by decide +kernel
theorem dL_law_1390 : decode cL_law 1390 = .ok (.aload_n 0, 1) := by decide +kernel
theorem dL_law_1391 : decode cL_law 1391 = .ok (.iload_n 3, 1) := by decide +kernel
theorem dL_law_1392 : decode cL_law 1392 = .ok (.iconst 2, 1) := by decide +kernel
theorem dL_law_1393 : decode cL_law 1393 = .ok (.iadd, 1) := by decide +kernel
theorem dL_law_1394 : decode cL_law 1394 = .ok (.iaload, 1) := by decide +kernel
theorem dL_law_1395 : decode cL_law 1395 = .ok (.aload_n 0, 1) := by decide +kernel
theorem dL_law_1396 : decode cL_law 1396 = .ok (.iload_n 3, 1) := by decide +kernel
theorem dL_law_1397 : decode cL_law 1397 = .ok (.iconst 3, 1) := by decide +kernel
theorem dL_law_1398 : decode cL_law 1398 = .ok (.iadd, 1) := by decide +kernel
theorem dL_law_1399 : decode cL_law 1399 = .ok (.iaload, 1) := by decide +kernel
set_option maxRecDepth 20000 in
theorem gT_X11_story : GoodIn lw_tbl wsX11_story := goodIn_q _ [(5, 13), (2, 208), (2, 104), (2, 101), (2, 42), (2, 139), (2, 141), (0, 0), (1, 1), (2, 142), (2, 105), (2, 96), (2, 195), (2, 196), (2, 197), (5, 14), (5, 15), (5, 16), (1, 9), (5, 17), (2, 35), (2, 41), (2, 37), (2, 39), (2, 228), (2, 230), (2, 232), (2, 234), (2, 236), (2, 238), (3, 0), (3, 2), (3, 4), (3, 6), (3, 8), (3, 10), (3, 12), (3, 14), (3, 16), (2, 108), (2, 110), (2, 112), (2, 114), (2, 116), (2, 118), (2, 120), (2, 122), (2, 124), (2, 126), (2, 128), (2, 130), (2, 132), (2, 43), (2, 45), (2, 47), (2, 49)] (by decide +kernel) (by decide +kernel)
set_option maxRecDepth 20000 in
theorem gL_law_X11_story : GoodIn lw_tbl (wsV RL 134 RX11 yX11_story wsX11_story) := goodIn_app (goodIn_q _ [(5, 10), (5, 11), (5, 12), (1, 1)] (by decide +kernel) (by decide +kernel)) gT_X11_story
theorem dL_law_1400 : decode cL_law 1400 = .ok (.invokevirtual 134, 3) := by decide +kernel
theorem dL_law_1403 : decode cL_law 1403 = .ok (.aload_n 2, 1) := by decide +kernel
theorem dL_law_1404 : decode cL_law 1404 = .ok (.aload_n 0, 1) := by decide +kernel
theorem dL_law_1405 : decode cL_law 1405 = .ok (.iload_n 3, 1) := by decide +kernel
theorem dL_law_1406 : decode cL_law 1406 = .ok (.iconst 1, 1) := by decide +kernel
theorem dL_law_1407 : decode cL_law 1407 = .ok (.iadd, 1) := by decide +kernel
theorem dL_law_1408 : decode cL_law 1408 = .ok (.iaload, 1) := by decide +kernel
theorem dL_law_1409 : decode cL_law 1409 = .ok (.aload_n 0, 1) := by decide +kernel
theorem dL_law_1410 : decode cL_law 1410 = .ok (.iload_n 3, 1) := by decide +kernel
theorem dL_law_1411 : decode cL_law 1411 = .ok (.iconst 2, 1) := by decide +kernel
theorem dL_law_1412 : decode cL_law 1412 = .ok (.iadd, 1) := by decide +kernel
theorem dL_law_1413 : decode cL_law 1413 = .ok (.iaload, 1) := by decide +kernel
theorem dL_law_1414 : decode cL_law 1414 = .ok (.aload_n 0, 1) := by decide +kernel
theorem dL_law_1415 : decode cL_law 1415 = .ok (.iload_n 3, 1) := by decide +kernel
theorem dL_law_1416 : decode cL_law 1416 = .ok (.iconst 3, 1) := by decide +kernel
theorem dL_law_1417 : decode cL_law 1417 = .ok (.iadd, 1) := by decide +kernel
theorem dL_law_1418 : decode cL_law 1418 = .ok (.iaload, 1) := by decide +kernel
set_option maxRecDepth 20000 in
theorem gT_X12_story : GoodIn lw_tbl wsX12_story := goodIn_q _ [(7, 169), (5, 131), (5, 120), (5, 168), (5, 165), (5, 166), (5, 167), (6, 151), (6, 153), (0, 30), (1, 12), (6, 154), (5, 136), (6, 144), (6, 145), (6, 146), (6, 122), (6, 123), (6, 124), (5, 199), (5, 201), (5, 203), (5, 205), (5, 207), (5, 209), (5, 211), (5, 213), (5, 215), (5, 217), (5, 219), (5, 221), (5, 223), (5, 225), (5, 227), (5, 229), (5, 231), (5, 233), (5, 235), (5, 237), (5, 239), (6, 1), (6, 3), (6, 5), (6, 7), (6, 9), (6, 11), (6, 13), (6, 15), (6, 17), (6, 19), (6, 21), (6, 23), (6, 25), (6, 27), (6, 29), (6, 31), (6, 33), (6, 35), (6, 37), (6, 39), (6, 41), (6, 43), (6, 45), (6, 47), (6, 49), (6, 51), (6, 53), (6, 55), (6, 57), (6, 59), (6, 61), (6, 63), (6, 65), (6, 67), (6, 69), (6, 71), (6, 73), (6, 75), (6, 77), (6, 79), (6, 81), (6, 83), (6, 85), (6, 87), (6, 89), (6, 91), (6, 93), (6, 95), (6, 97), (6, 99), (6, 101), (6, 103), (6, 105), (6, 107), (6, 109), (6, 111), (6, 113), (6, 115)] (by decide +kernel) (by decide +kernel)
set_option maxRecDepth 20000 in
theorem gL_law_X12_story : GoodIn lw_tbl (wsV RL 137 RX12 yX12_story wsX12_story) := goodIn_app (goodIn_q _ [(7, 166), (7, 167), (7, 168), (1, 12)] (by decide +kernel) (by decide +kernel)) gT_X12_story
theorem dL_law_1419 : decode cL_law 1419 = .ok (.invokevirtual 137, 3) := by decide +kernel
theorem dL_law_1422 : decode cL_law 1422 = .ok (.if_icmp .eq 415, 3) := by decide +kernel
theorem dL_law_1427 : decode cL_law 1427 = .ok (.aload_n 1, 1) := by decide +kernel
set_option maxRecDepth 20000 in
theorem gT_X11_unfit : GoodIn lw_tbl wsX11_unfit := goodIn_q _ [(5, 21), (2, 101), (2, 42), (2, 36), (2, 95), (2, 40), (2, 38), (2, 139), (2, 141), (0, 0), (1, 1), (2, 142), (2, 105), (2, 96), (3, 187), (3, 48), (3, 49), (1, 18), (3, 50), (2, 207), (2, 227), (2, 205), (2, 226), (2, 218), (2, 155), (2, 156), (1, 17), (2, 157), (3, 51), (3, 52), (3, 53), (3, 54), (2, 203), (3, 55), (3, 56), (3, 57), (1, 2), (3, 58), (1, 35), (3, 60), (3, 61), (3, 62), (3, 64), (3, 65), (3, 66), (3, 68), (0, 2), (3, 69), (2, 215), (2, 217), (4, 236), (3, 126), (3, 127), (2, 108), (2, 110), (2, 112), (2, 114), (2, 116), (2, 118), (2, 120), (2, 122), (2, 124), (2, 126), (2, 128), (2, 130), (2, 132), (2, 43), (2, 45), (2, 47), (2, 49), (2, 228), (2, 230), (2, 232), (2, 234), (2, 236), (2, 238), (3, 0), (3, 2), (3, 4), (3, 6), (3, 8), (3, 10), (3, 12), (3, 14), (3, 16), (1, 41), (1, 43), (1, 45), (1, 47)] (by decide +kernel) (by decide +kernel)
set_option maxRecDepth 20000 in
theorem gL_law_X11_unfit : GoodIn lw_tbl (wsV RL 138 RX11 yX11_unfit wsX11_unfit) := goodIn_app (goodIn_q _ [(5, 18), (5, 19), (5, 20), (1, 1)] (by decide +kernel) (by decide +kernel)) gT_X11_unfit
theorem dL_law_1428 : decode cL_law 1428 = .ok (.invokevirtual 138, 3) := by decide +kernel
theorem dL_law_1431 : decode cL_law 1431 = .ok (.aload_n 2, 1) := by decide +kernel
set_option maxRecDepth 20000 in
theorem gT_X12_unfit : GoodIn lw_tbl wsX12_unfit := goodIn_q _ [(7, 173), (5, 168), (5, 165), (5, 167), (5, 120), (5, 166), (6, 164), (6, 166), (0, 32), (1, 12), (6, 167), (5, 131), (5, 132), (6, 168), (6, 170), (0, 33), (6, 171), (5, 141), (5, 137), (5, 138), (5, 140), (5, 139), (6, 172), (6, 173), (6, 175), (0, 34), (6, 176), (5, 125), (5, 122), (5, 123), (5, 124), (5, 130), (6, 122), (6, 123), (6, 124), (5, 199), (5, 201), (5, 203), (5, 205), (5, 207), (5, 209), (5, 211), (5, 213), (5, 215), (5, 217), (5, 219), (5, 221), (5, 223), (5, 225), (5, 227), (5, 229), (5, 231), (5, 233), (5, 235), (5, 237), (5, 239), (6, 1), (6, 3), (6, 5), (6, 7), (6, 9), (6, 11), (6, 13), (6, 15), (6, 17), (6, 19), (6, 21), (6, 23), (6, 25), (6, 27), (6, 29), (6, 31), (6, 33), (6, 35), (6, 37), (6, 39), (6, 41), (6, 43), (6, 45), (6, 47), (6, 49), (6, 51), (6, 53), (6, 55), (6, 57), (6, 59), (6, 61), (6, 63), (6, 65), (6, 67), (6, 69), (6, 71), (6, 73), (6, 75), (6, 77), (6, 79), (6, 81), (6, 83), (6, 85), (6, 87), (6, 89), (6, 91), (6, 93), (6, 95), (6, 97), (6, 99), (6, 101), (6, 103), (6, 105), (6, 107), (6, 109), (6, 111), (6, 113), (6, 115)] (by decide +kernel) (by decide +kernel)
set_option maxRecDepth 20000 in
theorem gL_law_X12_unfit : GoodIn lw_tbl (wsV RL 141 RX12 yX12_unfit wsX12_unfit) := goodIn_app (goodIn_q _ [(7, 170), (7, 171), (7, 172), (1, 12)] (by decide +kernel) (by decide +kernel)) gT_X12_unfit
theorem dL_law_1432 : decode cL_law 1432 = .ok (.invokevirtual 141, 3) := by decide +kernel
theorem dL_law_1435 : decode cL_law 1435 = .ok (.if_icmp .eq 402, 3) := by decide +kernel
theorem dL_law_1440 : decode cL_law 1440 = .ok (.aload_n 1, 1) := by decide +kernel
theorem dL_law_1441 : decode cL_law 1441 = .ok (.aload_n 0, 1) := by decide +kernel
theorem dL_law_1442 : decode cL_law 1442 = .ok (.iload_n 3, 1) := by decide +kernel
theorem dL_law_1443 : decode cL_law 1443 = .ok (.iconst 1, 1) := by decide +kernel
theorem dL_law_1444 : decode cL_law 1444 = .ok (.iadd, 1) := by decide +kernel
theorem dL_law_1445 : decode cL_law 1445 = .ok (.iaload, 1) := by decide +kernel
theorem dL_law_1446 : decode cL_law 1446 = .ok (.aload_n 0, 1) := by decide +kernel
theorem dL_law_1447 : decode cL_law 1447 = .ok (.iload_n 3, 1) := by decide +kernel
theorem dL_law_1448 : decode cL_law 1448 = .ok (.iconst 2, 1) := by decide +kernel
theorem dL_law_1449 : decode cL_law 1449 = .ok (.iadd, 1) := by decide +kernel
theorem dL_law_1450 : decode cL_law 1450 = .ok (.iaload, 1) := by decide +kernel
set_option maxRecDepth 20000 in
theorem gT_X11_clash : GoodIn lw_tbl wsX11_clash := goodIn_q _ [(5, 25), (2, 101), (2, 36), (2, 40), (2, 38), (2, 95), (5, 26), (5, 27), (5, 28), (1, 9), (5, 29), (2, 41), (2, 139), (2, 141), (0, 0), (1, 1), (2, 142), (2, 105), (2, 96), (5, 30), (3, 52), (3, 53), (1, 18), (3, 54), (2, 203), (3, 55), (3, 56), (3, 57), (1, 2), (3, 58), (1, 35), (3, 60), (3, 61), (3, 62), (3, 64), (3, 65), (4, 236), (3, 126), (3, 127), (2, 108), (2, 110), (2, 112), (2, 114), (2, 116), (2, 118), (2, 120), (2, 122), (2, 124), (2, 126), (2, 128), (2, 130), (2, 132), (2, 43), (2, 45), (2, 47), (2, 49), (2, 228), (2, 230), (2, 232), (2, 234), (2, 236), (2, 238), (3, 0), (3, 2), (3, 4), (3, 6), (3, 8), (3, 10), (3, 12), (3, 14), (3, 16), (1, 41), (1, 43), (1, 45), (1, 47)] (by decide +kernel) (by decide +kernel)
set_option maxRecDepth 20000 in
theorem gL_law_X11_clash : GoodIn lw_tbl (wsV RL 142 RX11 yX11_clash wsX11_clash) := goodIn_app (goodIn_q _ [(5, 22), (5, 23), (5, 24), (1, 1)] (by decide +kernel) (by decide +kernel)) gT_X11_clash
theorem dL_law_1451 : decode cL_law 1451 = .ok (.invokevirtual 142, 3) := by decide +kernel
theorem dL_law_1454 : decode cL_law 1454 = .ok (.aload_n 2, 1) := by decide +kernel
theorem dL_law_1455 : decode cL_law 1455 = .ok (.aload_n 0, 1) := by decide +kernel
theorem dL_law_1456 : decode cL_law 1456 = .ok (.iload_n 3, 1) := by decide +kernel
theorem dL_law_1457 : decode cL_law 1457 = .ok (.iconst 1, 1) := by decide +kernel
theorem dL_law_1458 : decode cL_law 1458 = .ok (.iadd, 1) := by decide +kernel
theorem dL_law_1459 : decode cL_law 1459 = .ok (.iaload, 1) := by decide +kernel
theorem dL_law_1460 : decode cL_law 1460 = .ok (.aload_n 0, 1) := by decide +kernel
theorem dL_law_1461 : decode cL_law 1461 = .ok (.iload_n 3, 1) := by decide +kernel
theorem dL_law_1462 : decode cL_law 1462 = .ok (.iconst 2, 1) := by decide +kernel
theorem dL_law_1463 : decode cL_law 1463 = .ok (.iadd, 1) := by decide +kernel
theorem dL_law_1464 : decode cL_law 1464 = .ok (.iaload, 1) := by decide +kernel
set_option maxRecDepth 20000 in
theorem gT_X12_clash : GoodIn lw_tbl wsX12_clash := goodIn_q _ [(7, 177), (5, 165), (5, 167), (5, 166), (7, 178), (7, 180), (0, 60), (1, 12), (7, 181), (5, 168), (6, 173), (6, 175), (0, 34), (6, 176), (5, 125), (5, 122), (5, 123), (5, 124), (5, 130), (6, 122), (6, 123), (6, 124), (5, 199), (5, 201), (5, 203), (5, 205), (5, 207), (5, 209), (5, 211), (5, 213), (5, 215), (5, 217), (5, 219), (5, 221), (5, 223), (5, 225), (5, 227), (5, 229), (5, 231), (5, 233), (5, 235), (5, 237), (5, 239), (6, 1), (6, 3), (6, 5), (6, 7), (6, 9), (6, 11), (6, 13), (6, 15), (6, 17), (6, 19), (6, 21), (6, 23), (6, 25), (6, 27), (6, 29), (6, 31), (6, 33), (6, 35), (6, 37), (6, 39), (6, 41), (6, 43), (6, 45), (6, 47), (6, 49), (6, 51), (6, 53), (6, 55), (6, 57), (6, 59), (6, 61), (6, 63), (6, 65), (6, 67), (6, 69), (6, 71), (6, 73), (6, 75), (6, 77), (6, 79), (6, 81), (6, 83), (6, 85), (6, 87), (6, 89), (6, 91), (6, 93), (6, 95), (6, 97), (6, 99), (6, 101), (6, 103), (6, 105), (6, 107), (6, 109), (6, 111), (6, 113), (6, 115)] (by decide +kernel) (by decide +kernel)
set_option maxRecDepth 20000 in
theorem gL_law_X12_clash : GoodIn lw_tbl (wsV RL 145 RX12 yX12_clash wsX12_clash) := goodIn_app (goodIn_q _ [(7, 174), (7, 175), (7, 176), (1, 12)] (by decide +kernel) (by decide +kernel)) gT_X12_clash
theorem dL_law_1465 : decode cL_law 1465 = .ok (.invokevirtual 145, 3) := by decide +kernel
theorem dL_law_1468 : decode cL_law 1468 = .ok (.if_icmp .eq 369, 3) := by decide +kernel
theorem dL_law_1473 : decode cL_law 1473 = .ok (.aload_n 1, 1) := by decide +kernel
theorem dL_law_1474 : decode cL_law 1474 = .ok (.aload_n 0, 1) := by decide +kernel
theorem dL_law_1475 : decode cL_law 1475 = .ok (.iload_n 3, 1) := by decide +kernel
theorem dL_law_1476 : decode cL_law 1476 = .ok (.iconst 1, 1) := by decide +kernel
theorem dL_law_1477 : decode cL_law 1477 = .ok (.iadd, 1) := by decide +kernel
theorem dL_law_1478 : decode cL_law 1478 = .ok (.iaload, 1) := by decide +kernel
theorem dL_law_1479 : decode cL_law 1479 = .ok (.i2l, 1) := by decide +kernel
theorem dL_law_1480 : decode cL_law 1480 = .ok (.bipush 32, 2) := by decide +kernel
theorem dL_law_1482 : decode cL_law 1482 = .ok (.lshl, 1) := by decide +kernel
theorem dL_law_1483 : decode cL_law 1483 = .ok (.aload_n 0, 1) := by decide +kernel
theorem dL_law_1484 : decode cL_law 1484 = .ok (.iload_n 3, 1) := by decide +kernel
theorem dL_law_1485 : decode cL_law 1485 = .ok (.iconst 2, 1) := by decide +kernel
theorem dL_law_1486 : decode cL_law 1486 = .ok (.iadd, 1) := by decide +kernel
theorem dL_law_1487 : decode cL_law 1487 = .ok (.iaload, 1) := by decide +kernel
theorem dL_law_1488 : decode cL_law 1488 = .ok (.i2l, 1) := by decide +kernel
theorem dL_law_1489 : decode cL_law 1489 = .ok (.ldc2_w 42, 3) := by decide +kernel
theorem dL_law_1492 : decode cL_law 1492 = .ok (.land, 1) := by decide +kernel
theorem dL_law_1493 : decode cL_law 1493 = .ok (.lor, 1) := by decide +kernel
set_option maxRecDepth 20000 in
theorem gT_X11_row : GoodIn lw_tbl wsX11_row := goodIn_q _ [(5, 34), (5, 35), (2, 102), (2, 62), (5, 36), (5, 37), (5, 38), (1, 10), (5, 39), (2, 60), (2, 61), (5, 40), (2, 108), (2, 110), (2, 112), (2, 114), (2, 116), (2, 118), (2, 120), (2, 122), (2, 124), (2, 126), (2, 128), (2, 130), (2, 132), (2, 67), (2, 69), (2, 71), (2, 73)] (by decide +kernel) (by decide +kernel)
set_option maxRecDepth 20000 in
theorem gL_law_X11_row : GoodIn lw_tbl (wsV RL 146 RX11 yX11_row wsX11_row) := goodIn_app (goodIn_q _ [(5, 31), (5, 32), (5, 33), (1, 1)] (by decide +kernel) (by decide +kernel)) gT_X11_row
theorem dL_law_1494 : decode cL_law 1494 = .ok (.invokevirtual 146, 3) := by decide +kernel
theorem dL_law_1497 : decode cL_law 1497 = .ok (.aload_n 2, 1) := by decide +kernel
theorem dL_law_1498 : decode cL_law 1498 = .ok (.aload_n 0, 1) := by decide +kernel
theorem dL_law_1499 : decode cL_law 1499 = .ok (.iload_n 3, 1) := by decide +kernel
theorem dL_law_1500 : decode cL_law 1500 = .ok (.iconst 1, 1) := by decide +kernel
theorem dL_law_1501 : decode cL_law 1501 = .ok (.iadd, 1) := by decide +kernel
theorem dL_law_1502 : decode cL_law 1502 = .ok (.iaload, 1) := by decide +kernel
theorem dL_law_1503 : decode cL_law 1503 = .ok (.i2l, 1) := by decide +kernel
theorem dL_law_1504 : decode cL_law 1504 = .ok (.bipush 32, 2) := by decide +kernel
theorem dL_law_1506 : decode cL_law 1506 = .ok (.lshl, 1) := by decide +kernel
theorem dL_law_1507 : decode cL_law 1507 = .ok (.aload_n 0, 1) := by decide +kernel
theorem dL_law_1508 : decode cL_law 1508 = .ok (.iload_n 3, 1) := by decide +kernel
theorem dL_law_1509 : decode cL_law 1509 = .ok (.iconst 2, 1) := by decide +kernel
theorem dL_law_1510 : decode cL_law 1510 = .ok (.iadd, 1) := by decide +kernel
theorem dL_law_1511 : decode cL_law 1511 = .ok (.iaload, 1) := by decide +kernel
theorem dL_law_1512 : decode cL_law 1512 = .ok (.i2l, 1) := by decide +kernel
theorem dL_law_1513 : decode cL_law 1513 = .ok (.ldc2_w 42, 3) := by decide +kernel
theorem dL_law_1516 : decode cL_law 1516 = .ok (.land, 1) := by decide +kernel
theorem dL_law_1517 : decode cL_law 1517 = .ok (.lor, 1) := by decide +kernel
set_option maxRecDepth 20000 in
theorem gT_X12_row : GoodIn lw_tbl wsX12_row := goodIn_q _ [(7, 185), (7, 186), (5, 170), (5, 169), (7, 187), (5, 199), (5, 201), (5, 203), (5, 205), (5, 207), (5, 209), (5, 211), (5, 213), (5, 215), (5, 217), (5, 219), (5, 221), (5, 223), (5, 225), (5, 227), (5, 229), (5, 231), (5, 233), (5, 235), (5, 237), (5, 239), (6, 1), (6, 3), (6, 5), (6, 7), (6, 9), (6, 11), (6, 13), (6, 15), (6, 17), (6, 19), (6, 21), (6, 23), (6, 25), (6, 27), (6, 29), (6, 31), (6, 33), (6, 35), (6, 37), (6, 39), (6, 41), (6, 43), (6, 45), (6, 47), (6, 49), (6, 51), (6, 53), (6, 55), (6, 57), (6, 59), (6, 61), (6, 63), (6, 65), (6, 67), (6, 69), (6, 71), (6, 73), (6, 75), (6, 77), (6, 79), (6, 81), (6, 83), (6, 85), (6, 87), (6, 89), (6, 91), (6, 93), (6, 95), (6, 97), (6, 99), (6, 101), (6, 103), (6, 105), (6, 107), (6, 109), (6, 111), (6, 113), (6, 115)] (by decide +kernel) (by decide +kernel)
set_option maxRecDepth 20000 in
theorem gL_law_X12_row : GoodIn lw_tbl (wsV RL 149 RX12 yX12_row wsX12_row) := goodIn_app (goodIn_q _ [(7, 182), (7, 183), (7, 184), (1, 12)] (by decide +kernel) (by decide +kernel)) gT_X12_row
theorem dL_law_1518 : decode cL_law 1518 = .ok (.invokevirtual 149, 3) := by decide +kernel
theorem dL_law_1521 : decode cL_law 1521 = .ok (.if_icmp .eq 316, 3) := by decide +kernel
theorem dL_law_1526 : decode cL_law 1526 = .ok (.aload_n 1, 1) := by decide +kernel
theorem dL_law_1527 : decode cL_law 1527 = .ok (.aload_n 0, 1) := by decide +kernel
theorem dL_law_1528 : decode cL_law 1528 = .ok (.iload_n 3, 1) := by decide +kernel
theorem dL_law_1529 : decode cL_law 1529 = .ok (.iconst 1, 1) := by decide +kernel
theorem dL_law_1530 : decode cL_law 1530 = .ok (.iadd, 1) := by decide +kernel
theorem dL_law_1531 : decode cL_law 1531 = .ok (.iaload, 1) := by decide +kernel
theorem dL_law_1532 : decode cL_law 1532 = .ok (.aload_n 0, 1) := by decide +kernel
theorem dL_law_1533 : decode cL_law 1533 = .ok (.iload_n 3, 1) := by decide +kernel
theorem dL_law_1534 : decode cL_law 1534 = .ok (.iconst 2, 1) := by decide +kernel
theorem dL_law_1535 : decode cL_law 1535 = .ok (.iadd, 1) := by decide +kernel
theorem dL_law_1536 : decode cL_law 1536 = .ok (.iaload, 1) := by decide +kernel
theorem dL_law_1537 : decode cL_law 1537 = .ok (.aload_n 0, 1) := by decide +kernel
theorem dL_law_1538 : decode cL_law 1538 = .ok (.iload_n 3, 1) := by decide +kernel
theorem dL_law_1539 : decode cL_law 1539 = .ok (.iconst 3, 1) := by decide +kernel
theorem dL_law_1540 : decode cL_law 1540 = .ok (.iadd, 1) := by decide +kernel
theorem dL_law_1541 : decode cL_law 1541 = .ok (.iaload, 1) := by decide +kernel
set_option maxRecDepth 20000 in
theorem gT_X11_days : GoodIn lw_tbl wsX11_days := goodIn_q _ [(5, 44), (2, 102), (2, 64), (2, 66), (5, 45), (5, 46), (5, 47), (1, 10), (5, 48), (2, 63), (2, 65), (5, 49), (5, 51), (5, 53), (0, 26), (5, 54), (2, 61), (5, 63), (2, 181), (1, 17), (2, 182), (5, 55), (5, 57), (0, 27), (5, 58), (2, 60), (5, 59), (5, 60), (5, 61), (5, 62), (5, 64), (2, 108), (2, 110), (2, 112), (2, 114), (2, 116), (2, 118), (2, 120), (2, 122), (2, 124), (2, 126), (2, 128), (2, 130), (2, 132), (2, 67), (2, 69), (2, 71), (2, 73)] (by decide +kernel) (by decide +kernel)
set_option maxRecDepth 20000 in
theorem gL_law_X11_days : GoodIn lw_tbl (wsV RL 150 RX11 yX11_days wsX11_days) := goodIn_app (goodIn_q _ [(5, 41), (5, 42), (5, 43), (1, 1)] (by decide +kernel) (by decide +kernel)) gT_X11_days
theorem dL_law_1542 : decode cL_law 1542 = .ok (.invokevirtual 150, 3) := by decide +kernel
theorem dL_law_1545 : decode cL_law 1545 = .ok (.aload_n 2, 1) := by decide +kernel
theorem dL_law_1546 : decode cL_law 1546 = .ok (.aload_n 0, 1) := by decide +kernel
theorem dL_law_1547 : decode cL_law 1547 = .ok (.iload_n 3, 1) := by decide +kernel
theorem dL_law_1548 : decode cL_law 1548 = .ok (.iconst 1, 1) := by decide +kernel
theorem dL_law_1549 : decode cL_law 1549 = .ok (.iadd, 1) := by decide +kernel
theorem dL_law_1550 : decode cL_law 1550 = .ok (.iaload, 1) := by decide +kernel
theorem dL_law_1551 : decode cL_law 1551 = .ok (.aload_n 0, 1) := by decide +kernel
theorem dL_law_1552 : decode cL_law 1552 = .ok (.iload_n 3, 1) := by decide +kernel
theorem dL_law_1553 : decode cL_law 1553 = .ok (.iconst 2, 1) := by decide +kernel
theorem dL_law_1554 : decode cL_law 1554 = .ok (.iadd, 1) := by decide +kernel
theorem dL_law_1555 : decode cL_law 1555 = .ok (.iaload, 1) := by decide +kernel
theorem dL_law_1556 : decode cL_law 1556 = .ok (.aload_n 0, 1) := by decide +kernel
theorem dL_law_1557 : decode cL_law 1557 = .ok (.iload_n 3, 1) := by decide +kernel
theorem dL_law_1558 : decode cL_law 1558 = .ok (.iconst 3, 1) := by decide +kernel
theorem dL_law_1559 : decode cL_law 1559 = .ok (.iadd, 1) := by decide +kernel
theorem dL_law_1560 : decode cL_law 1560 = .ok (.iaload, 1) := by decide +kernel
set_option maxRecDepth 20000 in
theorem gT_X12_days : GoodIn lw_tbl wsX12_days := goodIn_q _ [(7, 191), (5, 193), (5, 170), (5, 194), (6, 122), (6, 123), (1, 12), (6, 124), (7, 192), (7, 194), (0, 61), (7, 195), (5, 169), (5, 199), (5, 201), (5, 203), (5, 205), (5, 207), (5, 209), (5, 211), (5, 213), (5, 215), (5, 217), (5, 219), (5, 221), (5, 223), (5, 225), (5, 227), (5, 229), (5, 231), (5, 233), (5, 235), (5, 237), (5, 239), (6, 1), (6, 3), (6, 5), (6, 7), (6, 9), (6, 11), (6, 13), (6, 15), (6, 17), (6, 19), (6, 21), (6, 23), (6, 25), (6, 27), (6, 29), (6, 31), (6, 33), (6, 35), (6, 37), (6, 39), (6, 41), (6, 43), (6, 45), (6, 47), (6, 49), (6, 51), (6, 53), (6, 55), (6, 57), (6, 59), (6, 61), (6, 63), (6, 65), (6, 67), (6, 69), (6, 71), (6, 73), (6, 75), (6, 77), (6, 79), (6, 81), (6, 83), (6, 85), (6, 87), (6, 89), (6, 91), (6, 93), (6, 95), (6, 97), (6, 99), (6, 101), (6, 103), (6, 105), (6, 107), (6, 109), (6, 111), (6, 113), (6, 115)] (by decide +kernel) (by decide +kernel)
set_option maxRecDepth 20000 in
theorem gL_law_X12_days : GoodIn lw_tbl (wsV RL 153 RX12 yX12_days wsX12_days) := goodIn_app (goodIn_q _ [(7, 188), (7, 189), (7, 190), (1, 12)] (by decide +kernel) (by decide +kernel)) gT_X12_days
theorem dL_law_1561 : decode cL_law 1561 = .ok (.invokevirtual 153, 3) := by decide +kernel
theorem dL_law_1564 : decode cL_law 1564 = .ok (.if_icmp .eq 273, 3) := by decide +kernel
theorem dL_law_1569 : decode cL_law 1569 = .ok (.aload_n 1, 1) := by decide +kernel
theorem dL_law_1570 : decode cL_law 1570 = .ok (.aload_n 0, 1) := by decide +kernel
theorem dL_law_1571 : decode cL_law 1571 = .ok (.iload_n 3, 1) := by decide +kernel
theorem dL_law_1572 : decode cL_law 1572 = .ok (.iconst 1, 1) := by decide +kernel
theorem dL_law_1573 : decode cL_law 1573 = .ok (.iadd, 1) := by decide +kernel
theorem dL_law_1574 : decode cL_law 1574 = .ok (.iaload, 1) := by decide +kernel
set_option maxRecDepth 20000 in
theorem gT_X11_count : GoodIn lw_tbl wsX11_count := goodIn_q _ [(5, 68), (2, 104), (2, 105), (2, 95), (1, 38), (2, 106), (2, 97), (1, 61), (1, 71), (1, 76), (2, 98), (1, 113), (2, 99), (1, 152), (2, 101), (2, 42), (2, 102), (2, 62), (2, 100), (2, 6), (2, 3), (2, 8), (2, 107), (2, 108), (2, 110), (2, 112), (2, 114), (2, 116), (2, 118), (2, 120), (2, 122), (2, 124), (2, 126), (2, 128), (2, 130), (2, 132), (1, 41), (1, 43), (1, 45), (1, 47), (1, 77), (1, 79), (1, 81), (1, 83), (1, 85), (1, 87), (1, 89), (1, 91), (1, 93), (1, 95), (1, 97), (1, 99), (1, 101), (1, 120), (1, 122), (1, 124), (1, 126), (1, 128), (1, 130), (1, 132), (1, 153), (1, 155), (1, 157), (1, 159), (1, 161), (1, 163), (2, 43), (2, 45), (2, 47), (2, 49), (2, 67), (2, 69), (2, 71), (2, 73), (2, 12), (2, 14), (2, 16), (2, 18), (2, 20), (2, 22), (2, 24), (2, 26)] (by decide +kernel) (by decide +kernel)
set_option maxRecDepth 20000 in
theorem gL_law_X11_count : GoodIn lw_tbl (wsV RL 154 RX11 yX11_count wsX11_count) := goodIn_app (goodIn_q _ [(5, 65), (5, 66), (5, 67), (1, 1)] (by decide +kernel) (by decide +kernel)) gT_X11_count
theorem dL_law_1575 : decode cL_law 1575 = .ok (.invokevirtual 154, 3) := by decide +kernel
theorem dL_law_1578 : decode cL_law 1578 = .ok (.aload_n 2, 1) := by decide +kernel
theorem dL_law_1579 : decode cL_law 1579 = .ok (.aload_n 0, 1) := by decide +kernel
theorem dL_law_1580 : decode cL_law 1580 = .ok (.iload_n 3, 1) := by decide +kernel
theorem dL_law_1581 : decode cL_law 1581 = .ok (.iconst 1, 1) := by decide +kernel
theorem dL_law_1582 : decode cL_law 1582 = .ok (.iadd, 1) := by decide +kernel
theorem dL_law_1583 : decode cL_law 1583 = .ok (.iaload, 1) := by decide +kernel
set_option maxRecDepth 20000 in
theorem gT_X12_count : GoodIn lw_tbl wsX12_count := goodIn_q _ [(7, 199), (5, 120), (5, 136), (5, 125), (5, 141), (5, 143), (5, 150), (5, 154), (5, 156), (5, 164), (5, 168), (5, 170), (5, 175), (5, 172), (5, 176), (5, 121), (5, 199), (5, 201), (5, 203), (5, 205), (5, 207), (5, 209), (5, 211), (5, 213), (5, 215), (5, 217), (5, 219), (5, 221), (5, 223), (5, 225), (5, 227), (5, 229), (5, 231), (5, 233), (5, 235), (5, 237), (5, 239), (6, 1), (6, 3), (6, 5), (6, 7), (6, 9), (6, 11), (6, 13), (6, 15), (6, 17), (6, 19), (6, 21), (6, 23), (6, 25), (6, 27), (6, 29), (6, 31), (6, 33), (6, 35), (6, 37), (6, 39), (6, 41), (6, 43), (6, 45), (6, 47), (6, 49), (6, 51), (6, 53), (6, 55), (6, 57), (6, 59), (6, 61), (6, 63), (6, 65), (6, 67), (6, 69), (6, 71), (6, 73), (6, 75), (6, 77), (6, 79), (6, 81), (6, 83), (6, 85), (6, 87), (6, 89), (6, 91), (6, 93), (6, 95), (6, 97), (6, 99), (6, 101), (6, 103), (6, 105), (6, 107), (6, 109), (6, 111), (6, 113), (6, 115)] (by decide +kernel) (by decide +kernel)
set_option maxRecDepth 20000 in
theorem gL_law_X12_count : GoodIn lw_tbl (wsV RL 157 RX12 yX12_count wsX12_count) := goodIn_app (goodIn_q _ [(7, 196), (7, 197), (7, 198), (1, 12)] (by decide +kernel) (by decide +kernel)) gT_X12_count
theorem dL_law_1584 : decode cL_law 1584 = .ok (.invokevirtual 157, 3) := by decide +kernel
theorem dL_law_1587 : decode cL_law 1587 = .ok (.if_icmp .eq 250, 3) := by decide +kernel
theorem dL_law_1592 : decode cL_law 1592 = .ok (.aload_n 1, 1) := by decide +kernel
theorem dL_law_1593 : decode cL_law 1593 = .ok (.aload_n 0, 1) := by decide +kernel
theorem dL_law_1594 : decode cL_law 1594 = .ok (.iload_n 3, 1) := by decide +kernel
theorem dL_law_1595 : decode cL_law 1595 = .ok (.iconst 1, 1) := by decide +kernel
theorem dL_law_1596 : decode cL_law 1596 = .ok (.iadd, 1) := by decide +kernel
theorem dL_law_1597 : decode cL_law 1597 = .ok (.iaload, 1) := by decide +kernel
theorem dL_law_1598 : decode cL_law 1598 = .ok (.aload_n 0, 1) := by decide +kernel
theorem dL_law_1599 : decode cL_law 1599 = .ok (.iload_n 3, 1) := by decide +kernel
theorem dL_law_1600 : decode cL_law 1600 = .ok (.iconst 2, 1) := by decide +kernel
theorem dL_law_1601 : decode cL_law 1601 = .ok (.iadd, 1) := by decide +kernel
theorem dL_law_1602 : decode cL_law 1602 = .ok (.iaload, 1) := by decide +kernel
theorem dL_law_1603 : decode cL_law 1603 = .ok (.aload_n 0, 1) := by decide +kernel
theorem dL_law_1604 : decode cL_law 1604 = .ok (.iload_n 3, 1) := by decide +kernel
theorem dL_law_1605 : decode cL_law 1605 = .ok (.iconst 3, 1) := by decide +kernel
theorem dL_law_1606 : decode cL_law 1606 = .ok (.iadd, 1) := by decide +kernel
theorem dL_law_1607 : decode cL_law 1607 = .ok (.iaload, 1) := by decide +kernel
set_option maxRecDepth 20000 in
theorem gT_X11_sheet : GoodIn lw_tbl wsX11_sheet := goodIn_q _ [(5, 72), (5, 73), (5, 75), (0, 28), (1, 1), (5, 76), (2, 103), (5, 77), (5, 78), (5, 79), (1, 11), (5, 80), (2, 85), (2, 87), (2, 83), (2, 108), (2, 110), (2, 112), (2, 114), (2, 116), (2, 118), (2, 120), (2, 122), (2, 124), (2, 126), (2, 128), (2, 130), (2, 132), (2, 88), (2, 90), (2, 92)] (by decide +kernel) (by decide +kernel)
set_option maxRecDepth 20000 in
theorem gL_law_X11_sheet : GoodIn lw_tbl (wsV RL 158 RX11 yX11_sheet wsX11_sheet) := goodIn_app (goodIn_q _ [(5, 69), (5, 70), (5, 71), (1, 1)] (by decide +kernel) (by decide +kernel)) gT_X11_sheet
theorem dL_law_1608 : decode cL_law 1608 = .ok (.invokevirtual 158, 3) := by decide +kernel
theorem dL_law_1611 : decode cL_law 1611 = .ok (.aload_n 2, 1) := by decide +kernel
theorem dL_law_1612 : decode cL_law 1612 = .ok (.aload_n 0, 1) := by decide +kernel
theorem dL_law_1613 : decode cL_law 1613 = .ok (.iload_n 3, 1) := by decide +kernel
theorem dL_law_1614 : decode cL_law 1614 = .ok (.iconst 1, 1) := by decide +kernel
theorem dL_law_1615 : decode cL_law 1615 = .ok (.iadd, 1) := by decide +kernel
theorem dL_law_1616 : decode cL_law 1616 = .ok (.iaload, 1) := by decide +kernel
theorem dL_law_1617 : decode cL_law 1617 = .ok (.aload_n 0, 1) := by decide +kernel
theorem dL_law_1618 : decode cL_law 1618 = .ok (.iload_n 3, 1) := by decide +kernel
theorem dL_law_1619 : decode cL_law 1619 = .ok (.iconst 2, 1) := by decide +kernel
theorem dL_law_1620 : decode cL_law 1620 = .ok (.iadd, 1) := by decide +kernel
theorem dL_law_1621 : decode cL_law 1621 = .ok (.iaload, 1) := by decide +kernel
theorem dL_law_1622 : decode cL_law 1622 = .ok (.aload_n 0, 1) := by decide +kernel
theorem dL_law_1623 : decode cL_law 1623 = .ok (.iload_n 3, 1) := by decide +kernel
theorem dL_law_1624 : decode cL_law 1624 = .ok (.iconst 3, 1) := by decide +kernel
theorem dL_law_1625 : decode cL_law 1625 = .ok (.iadd, 1) := by decide +kernel
theorem dL_law_1626 : decode cL_law 1626 = .ok (.iaload, 1) := by decide +kernel
set_option maxRecDepth 20000 in
theorem gT_X12_sheet : GoodIn lw_tbl wsX12_sheet := goodIn_q _ [(7, 203), (5, 195), (5, 196), (5, 197), (7, 204), (7, 205), (1, 12), (7, 206), (6, 122), (6, 123), (6, 124), (5, 199), (5, 201), (5, 203), (5, 205), (5, 207), (5, 209), (5, 211), (5, 213), (5, 215), (5, 217), (5, 219), (5, 221), (5, 223), (5, 225), (5, 227), (5, 229), (5, 231), (5, 233), (5, 235), (5, 237), (5, 239), (6, 1), (6, 3), (6, 5), (6, 7), (6, 9), (6, 11), (6, 13), (6, 15), (6, 17), (6, 19), (6, 21), (6, 23), (6, 25), (6, 27), (6, 29), (6, 31), (6, 33), (6, 35), (6, 37), (6, 39), (6, 41), (6, 43), (6, 45), (6, 47), (6, 49), (6, 51), (6, 53), (6, 55), (6, 57), (6, 59), (6, 61), (6, 63), (6, 65), (6, 67), (6, 69), (6, 71), (6, 73), (6, 75), (6, 77), (6, 79), (6, 81), (6, 83), (6, 85), (6, 87), (6, 89), (6, 91), (6, 93), (6, 95), (6, 97), (6, 99), (6, 101), (6, 103), (6, 105), (6, 107), (6, 109), (6, 111), (6, 113), (6, 115)] (by decide +kernel) (by decide +kernel)
set_option maxRecDepth 20000 in
theorem gL_law_X12_sheet : GoodIn lw_tbl (wsV RL 161 RX12 yX12_sheet wsX12_sheet) := goodIn_app (goodIn_q _ [(7, 200), (7, 201), (7, 202), (1, 12)] (by decide +kernel) (by decide +kernel)) gT_X12_sheet
theorem dL_law_1627 : decode cL_law 1627 = .ok (.invokevirtual 161, 3) := by decide +kernel
theorem dL_law_1630 : decode cL_law 1630 = .ok (.if_icmp .eq 207, 3) := by decide +kernel
theorem dL_law_1635 : decode cL_law 1635 = .ok (.aload_n 1, 1) := by decide +kernel
theorem dL_law_1636 : decode cL_law 1636 = .ok (.aload_n 0, 1) := by decide +kernel
theorem dL_law_1637 : decode cL_law 1637 = .ok (.iload_n 3, 1) := by decide +kernel
theorem dL_law_1638 : decode cL_law 1638 = .ok (.iconst 1, 1) := by decide +kernel
theorem dL_law_1639 : decode cL_law 1639 = .ok (.iadd, 1) := by decide +kernel
theorem dL_law_1640 : decode cL_law 1640 = .ok (.iaload, 1) := by decide +kernel
theorem dL_law_1641 : decode cL_law 1641 = .ok (.aload_n 0, 1) := by decide +kernel
theorem dL_law_1642 : decode cL_law 1642 = .ok (.iload_n 3, 1) := by decide +kernel
theorem dL_law_1643 : decode cL_law 1643 = .ok (.iconst 2, 1) := by decide +kernel
theorem dL_law_1644 : decode cL_law 1644 = .ok (.iadd, 1) := by decide +kernel
theorem dL_law_1645 : decode cL_law 1645 = .ok (.iaload, 1) := by decide +kernel
theorem dL_law_1646 : decode cL_law 1646 = .ok (.aload_n 0, 1) := by decide +kernel
theorem dL_law_1647 : decode cL_law 1647 = .ok (.iload_n 3, 1) := by decide +kernel
theorem dL_law_1648 : decode cL_law 1648 = .ok (.iconst 3, 1) := by decide +kernel
theorem dL_law_1649 : decode cL_law 1649 = .ok (.iadd, 1) := by decide +kernel
theorem dL_law_1650 : decode cL_law 1650 = .ok (.iaload, 1) := by decide +kernel
set_option maxRecDepth 20000 in
theorem gT_X11_cell : GoodIn lw_tbl wsX11_cell := goodIn_q _ [(5, 84), (2, 86), (5, 73), (5, 75), (0, 28), (1, 1), (5, 76), (2, 103), (5, 85), (5, 86), (5, 87), (1, 11), (5, 88), (2, 87), (5, 89), (5, 90), (5, 91), (5, 92), (2, 85), (2, 83), (2, 88), (2, 90), (2, 92), (2, 108), (2, 110), (2, 112), (2, 114), (2, 116), (2, 118), (2, 120), (2, 122), (2, 124), (2, 126), (2, 128), (2, 130), (2, 132)] (by decide +kernel) (by decide +kernel)
set_option maxRecDepth 20000 in
theorem gL_law_X11_cell : GoodIn lw_tbl (wsV RL 162 RX11 yX11_cell wsX11_cell) := goodIn_app (goodIn_q _ [(5, 81), (5, 82), (5, 83), (1, 1)] (by decide +kernel) (by decide +kernel)) gT_X11_cell
theorem dL_law_1651 : decode cL_law 1651 = .ok (.invokevirtual 162, 3) := by decide +kernel
theorem dL_law_1654 : decode cL_law 1654 = .ok (.aload_n 2, 1) := by decide +kernel
theorem dL_law_1655 : decode cL_law 1655 = .ok (.aload_n 0, 1) := by decide +kernel
theorem dL_law_1656 : decode cL_law 1656 = .ok (.iload_n 3, 1) := by decide +kernel
theorem dL_law_1657 : decode cL_law 1657 = .ok (.iconst 1, 1) := by decide +kernel
theorem dL_law_1658 : decode cL_law 1658 = .ok (.iadd, 1) := by decide +kernel
theorem dL_law_1659 : decode cL_law 1659 = .ok (.iaload, 1) := by decide +kernel
theorem dL_law_1660 : decode cL_law 1660 = .ok (.aload_n 0, 1) := by decide +kernel
theorem dL_law_1661 : decode cL_law 1661 = .ok (.iload_n 3, 1) := by decide +kernel
theorem dL_law_1662 : decode cL_law 1662 = .ok (.iconst 2, 1) := by decide +kernel
theorem dL_law_1663 : decode cL_law 1663 = .ok (.iadd, 1) := by decide +kernel
theorem dL_law_1664 : decode cL_law 1664 = .ok (.iaload, 1) := by decide +kernel
theorem dL_law_1665 : decode cL_law 1665 = .ok (.aload_n 0, 1) := by decide +kernel
theorem dL_law_1666 : decode cL_law 1666 = .ok (.iload_n 3, 1) := by decide +kernel
theorem dL_law_1667 : decode cL_law 1667 = .ok (.iconst 3, 1) := by decide +kernel
theorem dL_law_1668 : decode cL_law 1668 = .ok (.iadd, 1) := by decide +kernel
theorem dL_law_1669 : decode cL_law 1669 = .ok (.iaload, 1) := by decide +kernel
set_option maxRecDepth 20000 in
theorem gT_X12_cell : GoodIn lw_tbl wsX12_cell := goodIn_q _ [(7, 210), (5, 195), (5, 197), (7, 204), (7, 205), (1, 12), (7, 206), (6, 122), (6, 123), (6, 124), (7, 211), (7, 213), (0, 62), (7, 214), (5, 196), (5, 199), (5, 201), (5, 203), (5, 205), (5, 207), (5, 209), (5, 211), (5, 213), (5, 215), (5, 217), (5, 219), (5, 221), (5, 223), (5, 225), (5, 227), (5, 229), (5, 231), (5, 233), (5, 235), (5, 237), (5, 239), (6, 1), (6, 3), (6, 5), (6, 7), (6, 9), (6, 11), (6, 13), (6, 15), (6, 17), (6, 19), (6, 21), (6, 23), (6, 25), (6, 27), (6, 29), (6, 31), (6, 33), (6, 35), (6, 37), (6, 39), (6, 41), (6, 43), (6, 45), (6, 47), (6, 49), (6, 51), (6, 53), (6, 55), (6, 57), (6, 59), (6, 61), (6, 63), (6, 65), (6, 67), (6, 69), (6, 71), (6, 73), (6, 75), (6, 77), (6, 79), (6, 81), (6, 83), (6, 85), (6, 87), (6, 89), (6, 91), (6, 93), (6, 95), (6, 97), (6, 99), (6, 101), (6, 103), (6, 105), (6, 107), (6, 109), (6, 111), (6, 113), (6, 115)] (by decide +kernel) (by decide +kernel)
set_option maxRecDepth 20000 in
theorem gL_law_X12_cell : GoodIn lw_tbl (wsV RL 165 RX12 yX12_cell wsX12_cell) := goodIn_app (goodIn_q _ [(7, 207), (7, 208), (7, 209), (1, 12)] (by decide +kernel) (by decide +kernel)) gT_X12_cell
theorem dL_law_1670 : decode cL_law 1670 = .ok (.invokevirtual 165, 3) := by decide +kernel
theorem dL_law_1673 : decode cL_law 1673 = .ok (.if_icmp .eq 164, 3) := by decide +kernel
theorem dL_law_1678 : decode cL_law 1678 = .ok (.aload_n 1, 1) := by decide +kernel
theorem dL_law_1679 : decode cL_law 1679 = .ok (.aload_n 0, 1) := by decide +kernel
theorem dL_law_1680 : decode cL_law 1680 = .ok (.iload_n 3, 1) := by decide +kernel
theorem dL_law_1681 : decode cL_law 1681 = .ok (.iconst 1, 1) := by decide +kernel
theorem dL_law_1682 : decode cL_law 1682 = .ok (.iadd, 1) := by decide +kernel
theorem dL_law_1683 : decode cL_law 1683 = .ok (.iaload, 1) := by decide +kernel
theorem dL_law_1684 : decode cL_law 1684 = .ok (.aload_n 0, 1) := by decide +kernel
theorem dL_law_1685 : decode cL_law 1685 = .ok (.iload_n 3, 1) := by decide +kernel
theorem dL_law_1686 : decode cL_law 1686 = .ok (.iconst 2, 1) := by decide +kernel
theorem dL_law_1687 : decode cL_law 1687 = .ok (.iadd, 1) := by decide +kernel
theorem dL_law_1688 : decode cL_law 1688 = .ok (.iaload, 1) := by decide +kernel
theorem dL_law_1689 : decode cL_law 1689 = .ok (.aload_n 0, 1) := by decide +kernel
theorem dL_law_1690 : decode cL_law 1690 = .ok (.iload_n 3, 1) := by decide +kernel
theorem dL_law_1691 : decode cL_law 1691 = .ok (.iconst 3, 1) := by decide +kernel
theorem dL_law_1692 : decode cL_law 1692 = .ok (.iadd, 1) := by decide +kernel
theorem dL_law_1693 : decode cL_law 1693 = .ok (.iaload, 1) := by decide +kernel
theorem dL_law_1694 : decode cL_law 1694 = .ok (.aload_n 0, 1) := by decide +kernel
theorem dL_law_1695 : decode cL_law 1695 = .ok (.iload_n 3, 1) := by decide +kernel
theorem dL_law_1696 : decode cL_law 1696 = .ok (.iconst 4, 1) := by decide +kernel
theorem dL_law_1697 : decode cL_law 1697 = .ok (.iadd, 1) := by decide +kernel
theorem dL_law_1698 : decode cL_law 1698 = .ok (.iaload, 1) := by decide +kernel
theorem dL_law_1699 : decode cL_law 1699 = .ok (.aload_n 0, 1) := by decide +kernel
theorem dL_law_1700 : decode cL_law 1700 = .ok (.iload_n 3, 1) := by decide +kernel
theorem dL_law_1701 : decode cL_law 1701 = .ok (.iconst 5, 1) := by decide +kernel
theorem dL_law_1702 : decode cL_law 1702 = .ok (.iadd, 1) := by decide +kernel
theorem dL_law_1703 : decode cL_law 1703 = .ok (.iaload, 1) := by decide +kernel
set_option maxRecDepth 20000 in
theorem gT_X11_copy : GoodIn lw_tbl wsX11_copy := goodIn_q _ [(5, 96), (2, 86), (2, 84), (5, 101), (3, 238), (3, 237), (1, 20), (5, 73), (5, 75), (0, 28), (1, 1), (5, 76), (2, 103), (5, 97), (5, 98), (5, 99), (1, 11), (5, 100), (2, 87), (2, 88), (2, 90), (2, 92), (2, 108), (2, 110), (2, 112), (2, 114), (2, 116), (2, 118), (2, 120), (2, 122), (2, 124), (2, 126), (2, 128), (2, 130), (2, 132)] (by decide +kernel) (by decide +kernel)
set_option maxRecDepth 20000 in
theorem gL_law_X11_copy : GoodIn lw_tbl (wsV RL 166 RX11 yX11_copy wsX11_copy) := goodIn_app (goodIn_q _ [(5, 93), (5, 94), (5, 95), (1, 1)] (by decide +kernel) (by decide +kernel)) gT_X11_copy
theorem dL_law_1704 : decode cL_law 1704 = .ok (.invokevirtual 166, 3) := by decide +kernel
theorem dL_law_1707 : decode cL_law 1707 = .ok (.aload_n 2, 1) := by decide +kernel
theorem dL_law_1708 : decode cL_law 1708 = .ok (.aload_n 0, 1) := by decide +kernel
theorem dL_law_1709 : decode cL_law 1709 = .ok (.iload_n 3, 1) := by decide +kernel
theorem dL_law_1710 : decode cL_law 1710 = .ok (.iconst 1, 1) := by decide +kernel
theorem dL_law_1711 : decode cL_law 1711 = .ok (.iadd, 1) := by decide +kernel
theorem dL_law_1712 : decode cL_law 1712 = .ok (.iaload, 1) := by decide +kernel
theorem dL_law_1713 : decode cL_law 1713 = .ok (.aload_n 0, 1) := by decide +kernel
theorem dL_law_1714 : decode cL_law 1714 = .ok (.iload_n 3, 1) := by decide +kernel
theorem dL_law_1715 : decode cL_law 1715 = .ok (.iconst 2, 1) := by decide +kernel
theorem dL_law_1716 : decode cL_law 1716 = .ok (.iadd, 1) := by decide +kernel
theorem dL_law_1717 : decode cL_law 1717 = .ok (.iaload, 1) := by decide +kernel
theorem dL_law_1718 : decode cL_law 1718 = .ok (.aload_n 0, 1) := by decide +kernel
theorem dL_law_1719 : decode cL_law 1719 = .ok (.iload_n 3, 1) := by decide +kernel
theorem dL_law_1720 : decode cL_law 1720 = .ok (.iconst 3, 1) := by decide +kernel
theorem dL_law_1721 : decode cL_law 1721 = .ok (.iadd, 1) := by decide +kernel
theorem dL_law_1722 : decode cL_law 1722 = .ok (.iaload, 1) := by decide +kernel
theorem dL_law_1723 : decode cL_law 1723 = .ok (.aload_n 0, 1) := by decide +kernel
theorem dL_law_1724 : decode cL_law 1724 = .ok (.iload_n 3, 1) := by decide +kernel
theorem dL_law_1725 : decode cL_law 1725 = .ok (.iconst 4, 1) := by decide +kernel
theorem dL_law_1726 : decode cL_law 1726 = .ok (.iadd, 1) := by decide +kernel
theorem dL_law_1727 : decode cL_law 1727 = .ok (.iaload, 1) := by decide +kernel
theorem dL_law_1728 : decode cL_law 1728 = .ok (.aload_n 0, 1) := by decide +kernel
theorem dL_law_1729 : decode cL_law 1729 = .ok (.iload_n 3, 1) := by decide +kernel
theorem dL_law_1730 : decode cL_law 1730 = .ok (.iconst 5, 1) := by decide +kernel
theorem dL_law_1731 : decode cL_law 1731 = .ok (.iadd, 1) := by decide +kernel
theorem dL_law_1732 : decode cL_law 1732 = .ok (.iaload, 1) := by decide +kernel
set_option maxRecDepth 20000 in
theorem gT_X12_copy : GoodIn lw_tbl wsX12_copy := goodIn_q _ [(7, 218), (5, 195), (5, 196), (5, 198), (5, 197), (7, 204), (7, 205), (1, 12), (7, 206), (6, 122), (6, 123), (6, 124), (5, 199), (5, 201), (5, 203), (5, 205), (5, 207), (5, 209), (5, 211), (5, 213), (5, 215), (5, 217), (5, 219), (5, 221), (5, 223), (5, 225), (5, 227), (5, 229), (5, 231), (5, 233), (5, 235), (5, 237), (5, 239), (6, 1), (6, 3), (6, 5), (6, 7), (6, 9), (6, 11), (6, 13), (6, 15), (6, 17), (6, 19), (6, 21), (6, 23), (6, 25), (6, 27), (6, 29), (6, 31), (6, 33), (6, 35), (6, 37), (6, 39), (6, 41), (6, 43), (6, 45), (6, 47), (6, 49), (6, 51), (6, 53), (6, 55), (6, 57), (6, 59), (6, 61), (6, 63), (6, 65), (6, 67), (6, 69), (6, 71), (6, 73), (6, 75), (6, 77), (6, 79), (6, 81), (6, 83), (6, 85), (6, 87), (6, 89), (6, 91), (6, 93), (6, 95), (6, 97), (6, 99), (6, 101), (6, 103), (6, 105), (6, 107), (6, 109), (6, 111), (6, 113), (6, 115)] (by decide +kernel) (by decide +kernel)
set_option maxRecDepth 20000 in
theorem gL_law_X12_copy : GoodIn lw_tbl (wsV RL 169 RX12 yX12_copy wsX12_copy) := goodIn_app (goodIn_q _ [(7, 215), (7, 216), (7, 217), (1, 12)] (by decide +kernel) (by decide +kernel)) gT_X12_copy
theorem dL_law_1733 : decode cL_law 1733 = .ok (.invokevirtual 169, 3) := by decide +kernel
theorem dL_law_1736 : decode cL_law 1736 = .ok (.if_icmp .eq 101, 3) := by decide +kernel
theorem dL_law_1741 : decode cL_law 1741 = .ok (.aload_n 1, 1) := by decide +kernel
theorem dL_law_1742 : decode cL_law 1742 = .ok (.aload_n 0, 1) := by decide +kernel
theorem dL_law_1743 : decode cL_law 1743 = .ok (.iload_n 3, 1) := by decide +kernel
theorem dL_law_1744 : decode cL_law 1744 = .ok (.iconst 1, 1) := by decide +kernel
theorem dL_law_1745 : decode cL_law 1745 = .ok (.iadd, 1) := by decide +kernel
theorem dL_law_1746 : decode cL_law 1746 = .ok (.iaload, 1) := by decide +kernel
theorem dL_law_1747 : decode cL_law 1747 = .ok (.aload_n 0, 1) := by decide +kernel
theorem dL_law_1748 : decode cL_law 1748 = .ok (.iload_n 3, 1) := by decide +kernel
theorem dL_law_1749 : decode cL_law 1749 = .ok (.iconst 2, 1) := by decide +kernel
theorem dL_law_1750 : decode cL_law 1750 = .ok (.iadd, 1) := by decide +kernel
theorem dL_law_1751 : decode cL_law 1751 = .ok (.iaload, 1) := by decide +kernel
theorem dL_law_1752 : decode cL_law 1752 = .ok (.aload_n 0, 1) := by decide +kernel
theorem dL_law_1753 : decode cL_law 1753 = .ok (.iload_n 3, 1) := by decide +kernel
theorem dL_law_1754 : decode cL_law 1754 = .ok (.iconst 3, 1) := by decide +kernel
theorem dL_law_1755 : decode cL_law 1755 = .ok (.iadd, 1) := by decide +kernel
theorem dL_law_1756 : decode cL_law 1756 = .ok (.iaload, 1) := by decide +kernel
theorem dL_law_1757 : decode cL_law 1757 = .ok (.aload_n 0, 1) := by decide +kernel
theorem dL_law_1758 : decode cL_law 1758 = .ok (.iload_n 3, 1) := by decide +kernel
theorem dL_law_1759 : decode cL_law 1759 = .ok (.iconst 4, 1) := by decide +kernel
theorem dL_law_1760 : decode cL_law 1760 = .ok (.iadd, 1) := by decide +kernel
theorem dL_law_1761 : decode cL_law 1761 = .ok (.iaload, 1) := by decide +kernel
theorem dL_law_1762 : decode cL_law 1762 = .ok (.aload_n 0, 1) := by decide +kernel
theorem dL_law_1763 : decode cL_law 1763 = .ok (.iload_n 3, 1) := by decide +kernel
theorem dL_law_1764 : decode cL_law 1764 = .ok (.iconst 5, 1) := by decide +kernel
theorem dL_law_1765 : decode cL_law 1765 = .ok (.iadd, 1) := by decide +kernel
theorem dL_law_1766 : decode cL_law 1766 = .ok (.iaload, 1) := by decide +kernel
set_option maxRecDepth 20000 in
theorem gT_X11_fixes : GoodIn lw_tbl wsX11_fixes := goodIn_q _ [(5, 105), (2, 86), (2, 84), (2, 139), (2, 141), (0, 0), (1, 1), (2, 142), (2, 105), (2, 96), (5, 73), (5, 75), (0, 28), (5, 76), (2, 103), (5, 97), (5, 98), (5, 99), (1, 11), (5, 100), (2, 87), (2, 195), (2, 196), (2, 197), (5, 106), (3, 71), (3, 72), (3, 73), (2, 208), (2, 104), (2, 106), (3, 74), (3, 75), (3, 76), (1, 18), (3, 77), (2, 218), (2, 215), (2, 216), (2, 217), (3, 78), (2, 177), (2, 178), (2, 179), (2, 207), (2, 227), (2, 180), (2, 181), (1, 17), (2, 182), (2, 155), (2, 156), (2, 157), (2, 88), (2, 90), (2, 92), (2, 108), (2, 110), (2, 112), (2, 114), (2, 116), (2, 118), (2, 120), (2, 122), (2, 124), (2, 126), (2, 128), (2, 130), (2, 132), (2, 228), (2, 230), (2, 232), (2, 234), (2, 236), (2, 238), (3, 0), (3, 2), (3, 4), (3, 6), (3, 8), (3, 10), (3, 12), (3, 14), (3, 16)] (by decide +kernel) (by decide +kernel)
set_option maxRecDepth 20000 in
theorem gL_law_X11_fixes : GoodIn lw_tbl (wsV RL 170 RX11 yX11_fixes wsX11_fixes) := goodIn_app (goodIn_q _ [(5, 102), (5, 103), (5, 104), (1, 1)] (by decide +kernel) (by decide +kernel)) gT_X11_fixes
theorem dL_law_1767 : decode cL_law 1767 = .ok (.invokevirtual 170, 3) := by decide +kernel
theorem dL_law_1770 : decode cL_law 1770 = .ok (.aload_n 2, 1) := by decide +kernel
theorem dL_law_1771 : decode cL_law 1771 = .ok (.aload_n 0, 1) := by decide +kernel
theorem dL_law_1772 : decode cL_law 1772 = .ok (.iload_n 3, 1) := by decide +kernel
theorem dL_law_1773 : decode cL_law 1773 = .ok (.iconst 1, 1) := by decide +kernel
theorem dL_law_1774 : decode cL_law 1774 = .ok (.iadd, 1) := by decide +kernel
theorem dL_law_1775 : decode cL_law 1775 = .ok (.iaload, 1) := by decide +kernel
theorem dL_law_1776 : decode cL_law 1776 = .ok (.aload_n 0, 1) := by decide +kernel
theorem dL_law_1777 : decode cL_law 1777 = .ok (.iload_n 3, 1) := by decide +kernel
theorem dL_law_1778 : decode cL_law 1778 = .ok (.iconst 2, 1) := by decide +kernel
theorem dL_law_1779 : decode cL_law 1779 = .ok (.iadd, 1) := by decide +kernel
theorem dL_law_1780 : decode cL_law 1780 = .ok (.iaload, 1) := by decide +kernel
theorem dL_law_1781 : decode cL_law 1781 = .ok (.aload_n 0, 1) := by decide +kernel
theorem dL_law_1782 : decode cL_law 1782 = .ok (.iload_n 3, 1) := by decide +kernel
theorem dL_law_1783 : decode cL_law 1783 = .ok (.iconst 3, 1) := by decide +kernel
theorem dL_law_1784 : decode cL_law 1784 = .ok (.iadd, 1) := by decide +kernel
theorem dL_law_1785 : decode cL_law 1785 = .ok (.iaload, 1) := by decide +kernel
theorem dL_law_1786 : decode cL_law 1786 = .ok (.aload_n 0, 1) := by decide +kernel
theorem dL_law_1787 : decode cL_law 1787 = .ok (.iload_n 3, 1) := by decide +kernel
theorem dL_law_1788 : decode cL_law 1788 = .ok (.iconst 4, 1) := by decide +kernel
theorem dL_law_1789 : decode cL_law 1789 = .ok (.iadd, 1) := by decide +kernel
theorem dL_law_1790 : decode cL_law 1790 = .ok (.iaload, 1) := by decide +kernel
theorem dL_law_1791 : decode cL_law 1791 = .ok (.aload_n 0, 1) := by decide +kernel
theorem dL_law_1792 : decode cL_law 1792 = .ok (.iload_n 3, 1) := by decide +kernel
theorem dL_law_1793 : decode cL_law 1793 = .ok (.iconst 5, 1) := by decide +kernel
theorem dL_law_1794 : decode cL_law 1794 = .ok (.iadd, 1) := by decide +kernel
theorem dL_law_1795 : decode cL_law 1795 = .ok (.iaload, 1) := by decide +kernel
set_option maxRecDepth 20000 in
theorem gT_X12_fixes : GoodIn lw_tbl wsX12_fixes := goodIn_q _ [(7, 222), (5, 195), (7, 223), (5, 197), (5, 131), (5, 120), (6, 151), (6, 153), (0, 30), (1, 12), (6, 154), (5, 136), (7, 204), (7, 205), (7, 206), (6, 122), (6, 123), (6, 124), (7, 211), (7, 213), (0, 62), (7, 214), (5, 196), (6, 144), (6, 145), (6, 146), (6, 181), (6, 183), (0, 35), (6, 184), (5, 141), (5, 137), (5, 138), (5, 139), (5, 140), (5, 199), (5, 201), (5, 203), (5, 205), (5, 207), (5, 209), (5, 211), (5, 213), (5, 215), (5, 217), (5, 219), (5, 221), (5, 223), (5, 225), (5, 227), (5, 229), (5, 231), (5, 233), (5, 235), (5, 237), (5, 239), (6, 1), (6, 3), (6, 5), (6, 7), (6, 9), (6, 11), (6, 13), (6, 15), (6, 17), (6, 19), (6, 21), (6, 23), (6, 25), (6, 27), (6, 29), (6, 31), (6, 33), (6, 35), (6, 37), (6, 39), (6, 41), (6, 43), (6, 45), (6, 47), (6, 49), (6, 51), (6, 53), (6, 55), (6, 57), (6, 59), (6, 61), (6, 63), (6, 65), (6, 67), (6, 69), (6, 71), (6, 73), (6, 75), (6, 77), (6, 79), (6, 81), (6, 83), (6, 85), (6, 87), (6, 89), (6, 91), (6, 93), (6, 95), (6, 97), (6, 99), (6, 101), (6, 103), (6, 105), (6, 107), (6, 109), (6, 111), (6, 113), (6, 115)] (by decide +kernel) (by decide +kernel)
set_option maxRecDepth 20000 in
theorem gL_law_X12_fixes : GoodIn lw_tbl (wsV RL 173 RX12 yX12_fixes wsX12_fixes) := goodIn_app (goodIn_q _ [(7, 219), (7, 220), (7, 221), (1, 12)] (by decide +kernel) (by decide +kernel)) gT_X12_fixes
theorem dL_law_1796 : decode cL_law 1796 = .ok (.invokevirtual 173, 3) := by decide +kernel
theorem dL_law_1799 : decode cL_law 1799 = .ok (.if_icmp .eq 38, 3) := by decide +kernel
theorem dL_law_1804 : decode cL_law 1804 = .ok (.aload_n 1, 1) := by decide +kernel
theorem dL_law_1805 : decode cL_law 1805 = .ok (.aload_n 0, 1) := by decide +kernel
theorem dL_law_1806 : decode cL_law 1806 = .ok (.iload_n 3, 1) := by decide +kernel
theorem dL_law_1807 : decode cL_law 1807 = .ok (.iconst 1, 1) := by decide +kernel
theorem dL_law_1808 : decode cL_law 1808 = .ok (.iadd, 1) := by decide +kernel
theorem dL_law_1809 : decode cL_law 1809 = .ok (.iaload, 1) := by decide +kernel
theorem dL_law_1810 : decode cL_law 1810 = .ok (.aload_n 0, 1) := by decide +kernel
theorem dL_law_1811 : decode cL_law 1811 = .ok (.iload_n 3, 1) := by decide +kernel
theorem dL_law_1812 : decode cL_law 1812 = .ok (.iconst 2, 1) := by decide +kernel
theorem dL_law_1813 : decode cL_law 1813 = .ok (.iadd, 1) := by decide +kernel
theorem dL_law_1814 : decode cL_law 1814 = .ok (.iaload, 1) := by decide +kernel
set_option maxRecDepth 20000 in
theorem gT_X11_taken : GoodIn lw_tbl wsX11_taken := goodIn_q _ [(5, 110), (2, 210), (2, 139), (2, 141), (0, 0), (1, 1), (2, 142), (2, 105), (2, 96), (3, 173), (3, 174), (3, 175), (1, 18), (3, 176), (2, 203), (2, 228), (2, 230), (2, 232), (2, 234), (2, 236), (2, 238), (3, 0), (3, 2), (3, 4), (3, 6), (3, 8), (3, 10), (3, 12), (3, 14), (3, 16), (2, 108), (2, 110), (2, 112), (2, 114), (2, 116), (2, 118), (2, 120), (2, 122), (2, 124), (2, 126), (2, 128), (2, 130), (2, 132)] (by decide +kernel) (by decide +kernel)
set_option maxRecDepth 20000 in
theorem gL_law_X11_taken : GoodIn lw_tbl (wsV RL 174 RX11 yX11_taken wsX11_taken) := goodIn_app (goodIn_q _ [(5, 107), (5, 108), (5, 109), (1, 1)] (by decide +kernel) (by decide +kernel)) gT_X11_taken
theorem dL_law_1815 : decode cL_law 1815 = .ok (.invokevirtual 174, 3) := by decide +kernel
theorem dL_law_1818 : decode cL_law 1818 = .ok (.aload_n 2, 1) := by decide +kernel
theorem dL_law_1819 : decode cL_law 1819 = .ok (.aload_n 0, 1) := by decide +kernel
theorem dL_law_1820 : decode cL_law 1820 = .ok (.iload_n 3, 1) := by decide +kernel
theorem dL_law_1821 : decode cL_law 1821 = .ok (.iconst 1, 1) := by decide +kernel
theorem dL_law_1822 : decode cL_law 1822 = .ok (.iadd, 1) := by decide +kernel
theorem dL_law_1823 : decode cL_law 1823 = .ok (.iaload, 1) := by decide +kernel
theorem dL_law_1824 : decode cL_law 1824 = .ok (.aload_n 0, 1) := by decide +kernel
theorem dL_law_1825 : decode cL_law 1825 = .ok (.iload_n 3, 1) := by decide +kernel
theorem dL_law_1826 : decode cL_law 1826 = .ok (.iconst 2, 1) := by decide +kernel
theorem dL_law_1827 : decode cL_law 1827 = .ok (.iadd, 1) := by decide +kernel
theorem dL_law_1828 : decode cL_law 1828 = .ok (.iaload, 1) := by decide +kernel
set_option maxRecDepth 20000 in
theorem gT_X12_taken : GoodIn lw_tbl wsX12_taken := goodIn_q _ [(7, 227), (5, 130), (5, 133), (6, 122), (6, 123), (1, 12), (6, 124), (6, 151), (6, 153), (0, 30), (6, 154), (5, 136), (7, 228), (7, 229), (7, 230), (5, 199), (5, 201), (5, 203), (5, 205), (5, 207), (5, 209), (5, 211), (5, 213), (5, 215), (5, 217), (5, 219), (5, 221), (5, 223), (5, 225), (5, 227), (5, 229), (5, 231), (5, 233), (5, 235), (5, 237), (5, 239), (6, 1), (6, 3), (6, 5), (6, 7), (6, 9), (6, 11), (6, 13), (6, 15), (6, 17), (6, 19), (6, 21), (6, 23), (6, 25), (6, 27), (6, 29), (6, 31), (6, 33), (6, 35), (6, 37), (6, 39), (6, 41), (6, 43), (6, 45), (6, 47), (6, 49), (6, 51), (6, 53), (6, 55), (6, 57), (6, 59), (6, 61), (6, 63), (6, 65), (6, 67), (6, 69), (6, 71), (6, 73), (6, 75), (6, 77), (6, 79), (6, 81), (6, 83), (6, 85), (6, 87), (6, 89), (6, 91), (6, 93), (6, 95), (6, 97), (6, 99), (6, 101), (6, 103), (6, 105), (6, 107), (6, 109), (6, 111), (6, 113), (6, 115)] (by decide +kernel) (by decide +kernel)
set_option maxRecDepth 20000 in
theorem gL_law_X12_taken : GoodIn lw_tbl (wsV RL 177 RX12 yX12_taken wsX12_taken) := goodIn_app (goodIn_q _ [(7, 224), (7, 225), (7, 226), (1, 12)] (by decide +kernel) (by decide +kernel)) gT_X12_taken
theorem dL_law_1829 : decode cL_law 1829 = .ok (.invokevirtual 177, 3) := by decide +kernel
theorem dL_law_1832 : decode cL_law 1832 = .ok (.if_icmp .eq 5, 3) := by decide +kernel
set_option maxHeartbeats 1000000 in
set_option maxRecDepth 100000 in
theorem law_b26 {p : Program} {l : Launch} {e : Env} {s : State} {m : MethodId} {below : List Frame} {meth : Method} {c : Code} {dC : Nat → ClassId} {dI : Nat → Nat → Nat} {b L : Nat} {xs : Nat → Int32} (C0 : lw_At p s m meth c b L xs) (hL6 : L = 6) {hc_ hm_ : Nat} {ad am : Nat → Nat} {H : Heap} {locs : List Loc} (hK : va_K (dC, dI) vwCl [] s) (hP : va_P (dC, dI) vwCl [(hc_, .inr (11, [.ref (ad 0), .ref (ad 1), .ref (ad 2), .ref (ad 3), .ref (ad 4), .ref (ad 5), .ref (ad 6), .ref (ad 7), .ref (ad 8), .int 0, .int 0, .int 0, .int 0])), (hm_, .inr (12, [.int 0, .int 0, .ref (am 2), .ref (am 3), .ref (am 4), .int 0, .ref (am 6), .ref (am 7), .ref (am 8), .int 0, .ref (am 10), .ref (am 11), .ref (am 12), .ref (am 13), .ref (am 14), .ref (am 15), .int 0, .ref (am 17), .ref (am 18), .ref (am 19), .ref (am 20), .int 0, .ref (am 22), .int 0, .ref (am 24), .ref (am 25), .ref (am 26), .ref (am 27), .ref (am 28), .ref (am 29), .int 0, .ref (am 31), .ref (am 32), .ref (am 33), .int 0, .ref (am 35), .int 0, .ref (am 37), .ref (am 38), .ref (am 39), .ref (am 40), .ref (am 41), .ref (am 42), .ref (am 43), .int 0, .ref (am 45), .ref (am 46), .ref (am 47), .int 0, .ref (am 49), .int 0, .ref (am 51), .int 0, .ref (am 53), .ref (am 54), .int 1, .int 0, .ref (am 57), .long 0, .ref (am 59), .ref (am 60), .long 0, .int 0, .int 0, .int 0, .int 0, .int 0, .int 0, .ref (am 68), .int 0, .int 0, .ref (am 71), .ref (am 72), .ref (am 73), .ref (am 74), .ref (am 75), .ref (am 76), .ref (am 77), .ref (am 78)]))] H) (hD : va_D (fun q : Nat => s.heap.size ≤ q) [(hc_, .inr (11, [.ref (ad 0), .ref (ad 1), .ref (ad 2), .ref (ad 3), .ref (ad 4), .ref (ad 5), .ref (ad 6), .ref (ad 7), .ref (ad 8), .int 0, .int 0, .int 0, .int 0])), (hm_, .inr (12, [.int 0, .int 0, .ref (am 2), .ref (am 3), .ref (am 4), .int 0, .ref (am 6), .ref (am 7), .ref (am 8), .int 0, .ref (am 10), .ref (am 11), .ref (am 12), .ref (am 13), .ref (am 14), .ref (am 15), .int 0, .ref (am 17), .ref (am 18), .ref (am 19), .ref (am 20), .int 0, .ref (am 22), .int 0, .ref (am 24), .ref (am 25), .ref (am 26), .ref (am 27), .ref (am 28), .ref (am 29), .int 0, .ref (am 31), .ref (am 32), .ref (am 33), .int 0, .ref (am 35), .int 0, .ref (am 37), .ref (am 38), .ref (am 39), .ref (am 40), .ref (am 41), .ref (am 42), .ref (am 43), .int 0, .ref (am 45), .ref (am 46), .ref (am 47), .int 0, .ref (am 49), .int 0, .ref (am 51), .int 0, .ref (am 53), .ref (am 54), .int 1, .int 0, .ref (am 57), .long 0, .ref (am 59), .ref (am 60), .long 0, .int 0, .int 0, .int 0, .int 0, .int 0, .int 0, .ref (am 68), .int 0, .int 0, .ref (am 71), .ref (am 72), .ref (am 73), .ref (am 74), .ref (am 75), .ref (am 76), .ref (am 77), .ref (am 78)]))]) (hS : va_S (fun q : Nat => s.heap.size ≤ q) s.heap H locs) (ls : Array Slot) (hl : lv_has ls 4 [(3, .int 0), (2, .ref hm_), (1, .ref hc_), (0, .ref b)]) : W p l e room_1 s m #[Value.ref b] below meth c H locs 124 5628 (lw_Z below #[Value.ref b] s) (F0 m 1351 ls []) := by
  obtain ⟨hx, hb, hr, hml, hown, hts, hX, hbl, hlocks, hgv⟩ := id C0
  have hown : s.vm.findClass RL = some m.cls := hown
  have hb : c.code = cL_law := hb
  generalize hAe : (fun q : Nat => s.heap.size ≤ q) = A at hD hS 
  have hA : ∀ q : Nat, s.heap.size ≤ q → A q := fun q h => by rw [← hAe]; exact h
  have hbA : ¬ A b := by rw [← hAe]; exact Nat.not_le.mpr hbl
  refine lv_aload_n hx hb dL_law_1351 rfl (lv_at hl 2 rfl) ?_
  refine lv_aload_n hx hb dL_law_1352 rfl (lv_at hl 3 rfl) ?_
  refine lv_iload_n hx hb dL_law_1353 rfl (lv_at hl 0 rfl) ?_
  refine lv_iconst (v := 1) hx hb dL_law_1354 (by decide) ?_
  refine lv_iadd hx hb dL_law_1355 ?_
  refine lv_topi (fun y_1 ey_1 => ?_)
  obtain rfl : y_1 = 1 := ey_1.trans (by decide)
  refine va_sld hx hb hX hbl hbA hS (by rw [hL6]; unfold vp_in; decide) dL_law_1356 ?_
  refine lv_aload_n hx hb dL_law_1357 rfl (lv_at hl 3 rfl) ?_
  refine lv_iload_n hx hb dL_law_1358 rfl (lv_at hl 0 rfl) ?_
  refine lv_iconst (v := 2) hx hb dL_law_1359 (by decide) ?_
  refine lv_iadd hx hb dL_law_1360 ?_
  refine lv_topi (fun y_2 ey_2 => ?_)
  obtain rfl : y_2 = 2 := ey_2.trans (by decide)
  refine va_sld hx hb hX hbl hbA hS (by rw [hL6]; unfold vp_in; decide) dL_law_1361 ?_
  have hPc := hP.sub (ws' := [(hc_, .inr (11, [.ref (ad 0), .ref (ad 1), .ref (ad 2), .ref (ad 3), .ref (ad 4), .ref (ad 5), .ref (ad 6), .ref (ad 7), .ref (ad 8), .int 0, .int 0, .int 0, .int 0]))]) [0] rfl
  have hKc := hK.sub (tys' := []) [] rfl
  refine vp_callSi (va_Run.run (va_runV (As := [.int (xs (1 : Int32).toNatClampNeg), .int (xs (2 : Int32).toNatClampNeg)]) (rest := []) ⟨hx, hb, hml, hown, hts⟩ (rt_X11_first l dC dI hc_ ad (xs (1 : Int32).toNatClampNeg) (xs (2 : Int32).toNatClampNeg)) (cwV 2 hts gL_law_X11_first rfl rfl rfl (by decide +kernel) ⟨Nat.le_of_ble_eq_true rfl, Nat.le_of_ble_eq_true rfl⟩) ⟨fun a U g mk q => by obtain ⟨q0, qP, qK⟩ := q; exact ⟨q0, qP, va_K.moved (u := U) (U := U.calling g mk a) (Vm.Alike.refl U.vm) qK⟩, va_recv hKc hPc (ci := 11) (q0 := 0) rfl rfl, fun U hU hW => ⟨rfl, by rw [hU]; exact hPc, va_K.moved hW.alike hKc⟩⟩ rfl rfl hl.1 rfl (lv_room (Nat.le_of_ble_eq_true rfl)) dL_law_1362 ⟨by decide +kernel, by decide +kernel⟩)) (fun r_3 hr_3 => ?_)
  obtain rfl := hr_3
  refine lv_aload_n hx hb dL_law_1365 rfl (lv_at hl 1 rfl) ?_
  refine lv_aload_n hx hb dL_law_1366 rfl (lv_at hl 3 rfl) ?_
  refine lv_iload_n hx hb dL_law_1367 rfl (lv_at hl 0 rfl) ?_
  refine lv_iconst (v := 1) hx hb dL_law_1368 (by decide) ?_
  refine lv_iadd hx hb dL_law_1369 ?_
  refine lv_topi (fun y_4 ey_4 => ?_)
  obtain rfl : y_4 = 1 := ey_4.trans (by decide)
  refine va_sld hx hb hX hbl hbA hS (by rw [hL6]; unfold vp_in; decide) dL_law_1370 ?_
  refine lv_aload_n hx hb dL_law_1371 rfl (lv_at hl 3 rfl) ?_
  refine lv_iload_n hx hb dL_law_1372 rfl (lv_at hl 0 rfl) ?_
  refine lv_iconst (v := 2) hx hb dL_law_1373 (by decide) ?_
  refine lv_iadd hx hb dL_law_1374 ?_
  refine lv_topi (fun y_5 ey_5 => ?_)
  obtain rfl : y_5 = 2 := ey_5.trans (by decide)
  refine va_sld hx hb hX hbl hbA hS (by rw [hL6]; unfold vp_in; decide) dL_law_1375 ?_
  have hPc := hP.sub (ws' := [(hm_, .inr (12, [.int 0, .int 0, .ref (am 2), .ref (am 3), .ref (am 4), .int 0, .ref (am 6), .ref (am 7), .ref (am 8), .int 0, .ref (am 10), .ref (am 11), .ref (am 12), .ref (am 13), .ref (am 14), .ref (am 15), .int 0, .ref (am 17), .ref (am 18), .ref (am 19), .ref (am 20), .int 0, .ref (am 22), .int 0, .ref (am 24), .ref (am 25), .ref (am 26), .ref (am 27), .ref (am 28), .ref (am 29), .int 0, .ref (am 31), .ref (am 32), .ref (am 33), .int 0, .ref (am 35), .int 0, .ref (am 37), .ref (am 38), .ref (am 39), .ref (am 40), .ref (am 41), .ref (am 42), .ref (am 43), .int 0, .ref (am 45), .ref (am 46), .ref (am 47), .int 0, .ref (am 49), .int 0, .ref (am 51), .int 0, .ref (am 53), .ref (am 54), .int 1, .int 0, .ref (am 57), .long 0, .ref (am 59), .ref (am 60), .long 0, .int 0, .int 0, .int 0, .int 0, .int 0, .int 0, .ref (am 68), .int 0, .int 0, .ref (am 71), .ref (am 72), .ref (am 73), .ref (am 74), .ref (am 75), .ref (am 76), .ref (am 77), .ref (am 78)]))]) [1] rfl
  have hKc := hK.sub (tys' := []) [] rfl
  refine vp_callSi (va_Run.run (va_runV (As := [.int (xs (1 : Int32).toNatClampNeg), .int (xs (2 : Int32).toNatClampNeg)]) (rest := [.int (-2)]) ⟨hx, hb, hml, hown, hts⟩ (rt_X12_first l dC dI hm_ am (xs (1 : Int32).toNatClampNeg) (xs (2 : Int32).toNatClampNeg)) (cwV 2 hts gL_law_X12_first rfl rfl rfl (by decide +kernel) ⟨Nat.le_of_ble_eq_true rfl, Nat.le_of_ble_eq_true rfl⟩) ⟨fun a U g mk q => by obtain ⟨q0, qP, qK⟩ := q; exact ⟨q0, qP, va_K.moved (u := U) (U := U.calling g mk a) (Vm.Alike.refl U.vm) qK⟩, va_recv hKc hPc (ci := 12) (q0 := 0) rfl rfl, fun U hU hW => ⟨rfl, by rw [hU]; exact hPc, va_K.moved hW.alike hKc⟩⟩ rfl rfl hl.1 rfl (lv_room (Nat.le_of_ble_eq_true rfl)) dL_law_1376 ⟨by decide +kernel, by decide +kernel⟩)) (fun r_6 hr_6 => ?_)
  obtain rfl := hr_6
  refine lv_icmp_eq (tgt := 1837) hx hb dL_law_1379 (by decide) (fun _ => ?_) (fun c9 => absurd (by decide) c9)
  exact law_fin C0 hL6 hS (by decide +kernel) (by decide +kernel) ls (lv_sub hl [3, 2, 1, 0] rfl)
set_option maxHeartbeats 1000000 in
set_option maxRecDepth 100000 in
theorem law_b27 {p : Program} {l : Launch} {e : Env} {s : State} {m : MethodId} {below : List Frame} {meth : Method} {c : Code} {dC : Nat → ClassId} {dI : Nat → Nat → Nat} {b L : Nat} {xs : Nat → Int32} (C0 : lw_At p s m meth c b L xs) (hL6 : L = 6) {hc_ hm_ : Nat} {ad am : Nat → Nat} {H : Heap} {locs : List Loc} (hK : va_K (dC, dI) vwCl [] s) (hP : va_P (dC, dI) vwCl [(hc_, .inr (11, [.ref (ad 0), .ref (ad 1), .ref (ad 2), .ref (ad 3), .ref (ad 4), .ref (ad 5), .ref (ad 6), .ref (ad 7), .ref (ad 8), .int 0, .int 0, .int 0, .int 0])), (hm_, .inr (12, [.int 0, .int 0, .ref (am 2), .ref (am 3), .ref (am 4), .int 0, .ref (am 6), .ref (am 7), .ref (am 8), .int 0, .ref (am 10), .ref (am 11), .ref (am 12), .ref (am 13), .ref (am 14), .ref (am 15), .int 0, .ref (am 17), .ref (am 18), .ref (am 19), .ref (am 20), .int 0, .ref (am 22), .int 0, .ref (am 24), .ref (am 25), .ref (am 26), .ref (am 27), .ref (am 28), .ref (am 29), .int 0, .ref (am 31), .ref (am 32), .ref (am 33), .int 0, .ref (am 35), .int 0, .ref (am 37), .ref (am 38), .ref (am 39), .ref (am 40), .ref (am 41), .ref (am 42), .ref (am 43), .int 0, .ref (am 45), .ref (am 46), .ref (am 47), .int 0, .ref (am 49), .int 0, .ref (am 51), .int 0, .ref (am 53), .ref (am 54), .int 1, .int 0, .ref (am 57), .long 0, .ref (am 59), .ref (am 60), .long 0, .int 0, .int 0, .int 0, .int 0, .int 0, .int 0, .ref (am 68), .int 0, .int 0, .ref (am 71), .ref (am 72), .ref (am 73), .ref (am 74), .ref (am 75), .ref (am 76), .ref (am 77), .ref (am 78)]))] H) (hD : va_D (fun q : Nat => s.heap.size ≤ q) [(hc_, .inr (11, [.ref (ad 0), .ref (ad 1), .ref (ad 2), .ref (ad 3), .ref (ad 4), .ref (ad 5), .ref (ad 6), .ref (ad 7), .ref (ad 8), .int 0, .int 0, .int 0, .int 0])), (hm_, .inr (12, [.int 0, .int 0, .ref (am 2), .ref (am 3), .ref (am 4), .int 0, .ref (am 6), .ref (am 7), .ref (am 8), .int 0, .ref (am 10), .ref (am 11), .ref (am 12), .ref (am 13), .ref (am 14), .ref (am 15), .int 0, .ref (am 17), .ref (am 18), .ref (am 19), .ref (am 20), .int 0, .ref (am 22), .int 0, .ref (am 24), .ref (am 25), .ref (am 26), .ref (am 27), .ref (am 28), .ref (am 29), .int 0, .ref (am 31), .ref (am 32), .ref (am 33), .int 0, .ref (am 35), .int 0, .ref (am 37), .ref (am 38), .ref (am 39), .ref (am 40), .ref (am 41), .ref (am 42), .ref (am 43), .int 0, .ref (am 45), .ref (am 46), .ref (am 47), .int 0, .ref (am 49), .int 0, .ref (am 51), .int 0, .ref (am 53), .ref (am 54), .int 1, .int 0, .ref (am 57), .long 0, .ref (am 59), .ref (am 60), .long 0, .int 0, .int 0, .int 0, .int 0, .int 0, .int 0, .ref (am 68), .int 0, .int 0, .ref (am 71), .ref (am 72), .ref (am 73), .ref (am 74), .ref (am 75), .ref (am 76), .ref (am 77), .ref (am 78)]))]) (hS : va_S (fun q : Nat => s.heap.size ≤ q) s.heap H locs) (ls : Array Slot) (hl : lv_has ls 4 [(3, .int 0), (2, .ref hm_), (1, .ref hc_), (0, .ref b)]) : W p l e room_1 s m #[Value.ref b] below meth c H locs 124 5628 (lw_Z below #[Value.ref b] s) (F0 m 1384 ls []) := by
  obtain ⟨hx, hb, hr, hml, hown, hts, hX, hbl, hlocks, hgv⟩ := id C0
  have hown : s.vm.findClass RL = some m.cls := hown
  have hb : c.code = cL_law := hb
  generalize hAe : (fun q : Nat => s.heap.size ≤ q) = A at hD hS 
  have hA : ∀ q : Nat, s.heap.size ≤ q → A q := fun q h => by rw [← hAe]; exact h
  have hbA : ¬ A b := by rw [← hAe]; exact Nat.not_le.mpr hbl
  refine lv_aload_n hx hb dL_law_1384 rfl (lv_at hl 2 rfl) ?_
  refine lv_aload_n hx hb dL_law_1385 rfl (lv_at hl 3 rfl) ?_
  refine lv_iload_n hx hb dL_law_1386 rfl (lv_at hl 0 rfl) ?_
  refine lv_iconst (v := 1) hx hb dL_law_1387 (by decide) ?_
  refine lv_iadd hx hb dL_law_1388 ?_
  refine lv_topi (fun y_1 ey_1 => ?_)
  obtain rfl : y_1 = 1 := ey_1.trans (by decide)
  refine va_sld hx hb hX hbl hbA hS (by rw [hL6]; unfold vp_in; decide) dL_law_1389 ?_
  refine lv_aload_n hx hb dL_law_1390 rfl (lv_at hl 3 rfl) ?_
  refine lv_iload_n hx hb dL_law_1391 rfl (lv_at hl 0 rfl) ?_
  refine lv_iconst (v := 2) hx hb dL_law_1392 (by decide) ?_
  refine lv_iadd hx hb dL_law_1393 ?_
  refine lv_topi (fun y_2 ey_2 => ?_)
  obtain rfl : y_2 = 2 := ey_2.trans (by decide)
  refine va_sld hx hb hX hbl hbA hS (by rw [hL6]; unfold vp_in; decide) dL_law_1394 ?_
  refine lv_aload_n hx hb dL_law_1395 rfl (lv_at hl 3 rfl) ?_
  refine lv_iload_n hx hb dL_law_1396 rfl (lv_at hl 0 rfl) ?_
  refine lv_iconst (v := 3) hx hb dL_law_1397 (by decide) ?_
  refine lv_iadd hx hb dL_law_1398 ?_
  refine lv_topi (fun y_3 ey_3 => ?_)
  obtain rfl : y_3 = 3 := ey_3.trans (by decide)
  refine va_sld hx hb hX hbl hbA hS (by rw [hL6]; unfold vp_in; decide) dL_law_1399 ?_
  have hPc := hP.sub (ws' := [(hc_, .inr (11, [.ref (ad 0), .ref (ad 1), .ref (ad 2), .ref (ad 3), .ref (ad 4), .ref (ad 5), .ref (ad 6), .ref (ad 7), .ref (ad 8), .int 0, .int 0, .int 0, .int 0]))]) [0] rfl
  have hKc := hK.sub (tys' := []) [] rfl
  refine vp_callSi (va_Run.run (va_runV (As := [.int (xs (1 : Int32).toNatClampNeg), .int (xs (2 : Int32).toNatClampNeg), .int (xs (3 : Int32).toNatClampNeg)]) (rest := []) ⟨hx, hb, hml, hown, hts⟩ (rt_X11_story l dC dI hc_ ad (xs (1 : Int32).toNatClampNeg) (xs (2 : Int32).toNatClampNeg) (xs (3 : Int32).toNatClampNeg)) (cwV 3 hts gL_law_X11_story rfl rfl rfl (by decide +kernel) ⟨Nat.le_of_ble_eq_true rfl, Nat.le_of_ble_eq_true rfl⟩) ⟨fun a U g mk q => by obtain ⟨q0, qP, qK⟩ := q; exact ⟨q0, qP, va_K.moved (u := U) (U := U.calling g mk a) (Vm.Alike.refl U.vm) qK⟩, va_recv hKc hPc (ci := 11) (q0 := 0) rfl rfl, fun U hU hW => ⟨rfl, by rw [hU]; exact hPc, va_K.moved hW.alike hKc⟩⟩ rfl rfl hl.1 rfl (lv_room (Nat.le_of_ble_eq_true rfl)) dL_law_1400 ⟨by decide +kernel, by decide +kernel⟩)) (fun r_4 hr_4 => ?_)
  obtain rfl := hr_4
  refine lv_aload_n hx hb dL_law_1403 rfl (lv_at hl 1 rfl) ?_
  refine lv_aload_n hx hb dL_law_1404 rfl (lv_at hl 3 rfl) ?_
  refine lv_iload_n hx hb dL_law_1405 rfl (lv_at hl 0 rfl) ?_
  refine lv_iconst (v := 1) hx hb dL_law_1406 (by decide) ?_
  refine lv_iadd hx hb dL_law_1407 ?_
  refine lv_topi (fun y_5 ey_5 => ?_)
  obtain rfl : y_5 = 1 := ey_5.trans (by decide)
  refine va_sld hx hb hX hbl hbA hS (by rw [hL6]; unfold vp_in; decide) dL_law_1408 ?_
  refine lv_aload_n hx hb dL_law_1409 rfl (lv_at hl 3 rfl) ?_
  refine lv_iload_n hx hb dL_law_1410 rfl (lv_at hl 0 rfl) ?_
  refine lv_iconst (v := 2) hx hb dL_law_1411 (by decide) ?_
  refine lv_iadd hx hb dL_law_1412 ?_
  refine lv_topi (fun y_6 ey_6 => ?_)
  obtain rfl : y_6 = 2 := ey_6.trans (by decide)
  refine va_sld hx hb hX hbl hbA hS (by rw [hL6]; unfold vp_in; decide) dL_law_1413 ?_
  refine lv_aload_n hx hb dL_law_1414 rfl (lv_at hl 3 rfl) ?_
  refine lv_iload_n hx hb dL_law_1415 rfl (lv_at hl 0 rfl) ?_
  refine lv_iconst (v := 3) hx hb dL_law_1416 (by decide) ?_
  refine lv_iadd hx hb dL_law_1417 ?_
  refine lv_topi (fun y_7 ey_7 => ?_)
  obtain rfl : y_7 = 3 := ey_7.trans (by decide)
  refine va_sld hx hb hX hbl hbA hS (by rw [hL6]; unfold vp_in; decide) dL_law_1418 ?_
  have hPc := hP.sub (ws' := [(hm_, .inr (12, [.int 0, .int 0, .ref (am 2), .ref (am 3), .ref (am 4), .int 0, .ref (am 6), .ref (am 7), .ref (am 8), .int 0, .ref (am 10), .ref (am 11), .ref (am 12), .ref (am 13), .ref (am 14), .ref (am 15), .int 0, .ref (am 17), .ref (am 18), .ref (am 19), .ref (am 20), .int 0, .ref (am 22), .int 0, .ref (am 24), .ref (am 25), .ref (am 26), .ref (am 27), .ref (am 28), .ref (am 29), .int 0, .ref (am 31), .ref (am 32), .ref (am 33), .int 0, .ref (am 35), .int 0, .ref (am 37), .ref (am 38), .ref (am 39), .ref (am 40), .ref (am 41), .ref (am 42), .ref (am 43), .int 0, .ref (am 45), .ref (am 46), .ref (am 47), .int 0, .ref (am 49), .int 0, .ref (am 51), .int 0, .ref (am 53), .ref (am 54), .int 1, .int 0, .ref (am 57), .long 0, .ref (am 59), .ref (am 60), .long 0, .int 0, .int 0, .int 0, .int 0, .int 0, .int 0, .ref (am 68), .int 0, .int 0, .ref (am 71), .ref (am 72), .ref (am 73), .ref (am 74), .ref (am 75), .ref (am 76), .ref (am 77), .ref (am 78)]))]) [1] rfl
  have hKc := hK.sub (tys' := []) [] rfl
  refine vp_callSi (va_Run.run (va_runV (As := [.int (xs (1 : Int32).toNatClampNeg), .int (xs (2 : Int32).toNatClampNeg), .int (xs (3 : Int32).toNatClampNeg)]) (rest := [.int (-2)]) ⟨hx, hb, hml, hown, hts⟩ (rt_X12_story l dC dI hm_ am (xs (1 : Int32).toNatClampNeg) (xs (2 : Int32).toNatClampNeg) (xs (3 : Int32).toNatClampNeg)) (cwV 3 hts gL_law_X12_story rfl rfl rfl (by decide +kernel) ⟨Nat.le_of_ble_eq_true rfl, Nat.le_of_ble_eq_true rfl⟩) ⟨fun a U g mk q => by obtain ⟨q0, qP, qK⟩ := q; exact ⟨q0, qP, va_K.moved (u := U) (U := U.calling g mk a) (Vm.Alike.refl U.vm) qK⟩, va_recv hKc hPc (ci := 12) (q0 := 0) rfl rfl, fun U hU hW => ⟨rfl, by rw [hU]; exact hPc, va_K.moved hW.alike hKc⟩⟩ rfl rfl hl.1 rfl (lv_room (Nat.le_of_ble_eq_true rfl)) dL_law_1419 ⟨by decide +kernel, by decide +kernel⟩)) (fun r_8 hr_8 => ?_)
  obtain rfl := hr_8
  refine lv_icmp_eq (tgt := 1837) hx hb dL_law_1422 (by decide) (fun _ => ?_) (fun c9 => absurd (by decide) c9)
  exact law_fin C0 hL6 hS (by decide +kernel) (by decide +kernel) ls (lv_sub hl [3, 2, 1, 0] rfl)
set_option maxHeartbeats 1000000 in
set_option maxRecDepth 100000 in
theorem law_b28 {p : Program} {l : Launch} {e : Env} {s : State} {m : MethodId} {below : List Frame} {meth : Method} {c : Code} {dC : Nat → ClassId} {dI : Nat → Nat → Nat} {b L : Nat} {xs : Nat → Int32} (C0 : lw_At p s m meth c b L xs) (hL6 : L = 6) {hc_ hm_ : Nat} {ad at_ am : Nat → Nat} {H : Heap} {locs : List Loc} (hK : va_K (dC, dI) vwCl [] s) (hP : va_P (dC, dI) vwCl [(hc_, .inr (11, [.ref (ad 0), .ref (ad 1), .ref (ad 2), .ref (ad 3), .ref (ad 4), .ref (ad 5), .ref (ad 6), .ref (ad 7), .ref (ad 8), .int 0, .int 0, .int 0, .int 0])), (ad 6, .inr (8, [.ref (at_ 0), .ref (at_ 1), .ref (at_ 2), .int 0])), (hm_, .inr (12, [.int 0, .int 0, .ref (am 2), .ref (am 3), .ref (am 4), .int 0, .ref (am 6), .ref (am 7), .ref (am 8), .int 0, .ref (am 10), .ref (am 11), .ref (am 12), .ref (am 13), .ref (am 14), .ref (am 15), .int 0, .ref (am 17), .ref (am 18), .ref (am 19), .ref (am 20), .int 0, .ref (am 22), .int 0, .ref (am 24), .ref (am 25), .ref (am 26), .ref (am 27), .ref (am 28), .ref (am 29), .int 0, .ref (am 31), .ref (am 32), .ref (am 33), .int 0, .ref (am 35), .int 0, .ref (am 37), .ref (am 38), .ref (am 39), .ref (am 40), .ref (am 41), .ref (am 42), .ref (am 43), .int 0, .ref (am 45), .ref (am 46), .ref (am 47), .int 0, .ref (am 49), .int 0, .ref (am 51), .int 0, .ref (am 53), .ref (am 54), .int 1, .int 0, .ref (am 57), .long 0, .ref (am 59), .ref (am 60), .long 0, .int 0, .int 0, .int 0, .int 0, .int 0, .int 0, .ref (am 68), .int 0, .int 0, .ref (am 71), .ref (am 72), .ref (am 73), .ref (am 74), .ref (am 75), .ref (am 76), .ref (am 77), .ref (am 78)]))] H) (hD : va_D (fun q : Nat => s.heap.size ≤ q) [(hc_, .inr (11, [.ref (ad 0), .ref (ad 1), .ref (ad 2), .ref (ad 3), .ref (ad 4), .ref (ad 5), .ref (ad 6), .ref (ad 7), .ref (ad 8), .int 0, .int 0, .int 0, .int 0])), (ad 6, .inr (8, [.ref (at_ 0), .ref (at_ 1), .ref (at_ 2), .int 0])), (hm_, .inr (12, [.int 0, .int 0, .ref (am 2), .ref (am 3), .ref (am 4), .int 0, .ref (am 6), .ref (am 7), .ref (am 8), .int 0, .ref (am 10), .ref (am 11), .ref (am 12), .ref (am 13), .ref (am 14), .ref (am 15), .int 0, .ref (am 17), .ref (am 18), .ref (am 19), .ref (am 20), .int 0, .ref (am 22), .int 0, .ref (am 24), .ref (am 25), .ref (am 26), .ref (am 27), .ref (am 28), .ref (am 29), .int 0, .ref (am 31), .ref (am 32), .ref (am 33), .int 0, .ref (am 35), .int 0, .ref (am 37), .ref (am 38), .ref (am 39), .ref (am 40), .ref (am 41), .ref (am 42), .ref (am 43), .int 0, .ref (am 45), .ref (am 46), .ref (am 47), .int 0, .ref (am 49), .int 0, .ref (am 51), .int 0, .ref (am 53), .ref (am 54), .int 1, .int 0, .ref (am 57), .long 0, .ref (am 59), .ref (am 60), .long 0, .int 0, .int 0, .int 0, .int 0, .int 0, .int 0, .ref (am 68), .int 0, .int 0, .ref (am 71), .ref (am 72), .ref (am 73), .ref (am 74), .ref (am 75), .ref (am 76), .ref (am 77), .ref (am 78)]))]) (hS : va_S (fun q : Nat => s.heap.size ≤ q) s.heap H locs) (ls : Array Slot) (hl : lv_has ls 4 [(3, .int 0), (2, .ref hm_), (1, .ref hc_), (0, .ref b)]) : W p l e room_1 s m #[Value.ref b] below meth c H locs 124 5628 (lw_Z below #[Value.ref b] s) (F0 m 1427 ls []) := by
  obtain ⟨hx, hb, hr, hml, hown, hts, hX, hbl, hlocks, hgv⟩ := id C0
  have hown : s.vm.findClass RL = some m.cls := hown
  have hb : c.code = cL_law := hb
  generalize hAe : (fun q : Nat => s.heap.size ≤ q) = A at hD hS 
  have hA : ∀ q : Nat, s.heap.size ≤ q → A q := fun q h => by rw [← hAe]; exact h
  have hbA : ¬ A b := by rw [← hAe]; exact Nat.not_le.mpr hbl
  refine lv_aload_n hx hb dL_law_1427 rfl (lv_at hl 2 rfl) ?_
  have hPc := hP.sub (ws' := [(hc_, .inr (11, [.ref (ad 0), .ref (ad 1), .ref (ad 2), .ref (ad 3), .ref (ad 4), .ref (ad 5), .ref (ad 6), .ref (ad 7), .ref (ad 8), .int 0, .int 0, .int 0, .int 0])), (ad 6, .inr (8, [.ref (at_ 0), .ref (at_ 1), .ref (at_ 2), .int 0]))]) [0, 1] rfl
  have hKc := hK.sub (tys' := []) [] rfl
  refine vp_callSi (va_Run.run (va_runV (As := []) (rest := []) ⟨hx, hb, hml, hown, hts⟩ (rt_X11_unfit l dC dI hc_ ad at_) (cwV 0 hts gL_law_X11_unfit rfl rfl rfl (by decide +kernel) ⟨Nat.le_of_ble_eq_true rfl, Nat.le_of_ble_eq_true rfl⟩) ⟨fun a U g mk q => by obtain ⟨q0, qP, qK⟩ := q; exact ⟨q0, qP, va_K.moved (u := U) (U := U.calling g mk a) (Vm.Alike.refl U.vm) qK⟩, va_recv hKc hPc (ci := 11) (q0 := 0) rfl rfl, fun U hU hW => ⟨rfl, by rw [hU]; exact hPc, va_K.moved hW.alike hKc⟩⟩ rfl rfl hl.1 rfl (lv_room (Nat.le_of_ble_eq_true rfl)) dL_law_1428 ⟨by decide +kernel, by decide +kernel⟩)) (fun r_1 hr_1 => ?_)
  obtain rfl := hr_1
  refine lv_aload_n hx hb dL_law_1431 rfl (lv_at hl 1 rfl) ?_
  have hPc := hP.sub (ws' := [(hm_, .inr (12, [.int 0, .int 0, .ref (am 2), .ref (am 3), .ref (am 4), .int 0, .ref (am 6), .ref (am 7), .ref (am 8), .int 0, .ref (am 10), .ref (am 11), .ref (am 12), .ref (am 13), .ref (am 14), .ref (am 15), .int 0, .ref (am 17), .ref (am 18), .ref (am 19), .ref (am 20), .int 0, .ref (am 22), .int 0, .ref (am 24), .ref (am 25), .ref (am 26), .ref (am 27), .ref (am 28), .ref (am 29), .int 0, .ref (am 31), .ref (am 32), .ref (am 33), .int 0, .ref (am 35), .int 0, .ref (am 37), .ref (am 38), .ref (am 39), .ref (am 40), .ref (am 41), .ref (am 42), .ref (am 43), .int 0, .ref (am 45), .ref (am 46), .ref (am 47), .int 0, .ref (am 49), .int 0, .ref (am 51), .int 0, .ref (am 53), .ref (am 54), .int 1, .int 0, .ref (am 57), .long 0, .ref (am 59), .ref (am 60), .long 0, .int 0, .int 0, .int 0, .int 0, .int 0, .int 0, .ref (am 68), .int 0, .int 0, .ref (am 71), .ref (am 72), .ref (am 73), .ref (am 74), .ref (am 75), .ref (am 76), .ref (am 77), .ref (am 78)]))]) [2] rfl
  have hKc := hK.sub (tys' := []) [] rfl
  refine vp_callSi (va_Run.run (va_runV (As := []) (rest := [.int 0]) ⟨hx, hb, hml, hown, hts⟩ (rt_X12_unfit l dC dI hm_ am) (cwV 0 hts gL_law_X12_unfit rfl rfl rfl (by decide +kernel) ⟨Nat.le_of_ble_eq_true rfl, Nat.le_of_ble_eq_true rfl⟩) ⟨fun a U g mk q => by obtain ⟨q0, qP, qK⟩ := q; exact ⟨q0, qP, va_K.moved (u := U) (U := U.calling g mk a) (Vm.Alike.refl U.vm) qK⟩, va_recv hKc hPc (ci := 12) (q0 := 0) rfl rfl, fun U hU hW => ⟨rfl, by rw [hU]; exact hPc, va_K.moved hW.alike hKc⟩⟩ rfl rfl hl.1 rfl (lv_room (Nat.le_of_ble_eq_true rfl)) dL_law_1432 ⟨by decide +kernel, by decide +kernel⟩)) (fun r_2 hr_2 => ?_)
  obtain rfl := hr_2
  refine lv_icmp_eq (tgt := 1837) hx hb dL_law_1435 (by decide) (fun _ => ?_) (fun c9 => absurd (by decide) c9)
  exact law_fin C0 hL6 hS (by decide +kernel) (by decide +kernel) ls (lv_sub hl [3, 2, 1, 0] rfl)
set_option maxHeartbeats 1000000 in
set_option maxRecDepth 100000 in
theorem law_b29 {p : Program} {l : Launch} {e : Env} {s : State} {m : MethodId} {below : List Frame} {meth : Method} {c : Code} {dC : Nat → ClassId} {dI : Nat → Nat → Nat} {b L : Nat} {xs : Nat → Int32} (C0 : lw_At p s m meth c b L xs) (hL6 : L = 6) {hc_ hm_ : Nat} {ad at_ am : Nat → Nat} {H : Heap} {locs : List Loc} (hK : va_K (dC, dI) vwCl [] s) (hP : va_P (dC, dI) vwCl [(hc_, .inr (11, [.ref (ad 0), .ref (ad 1), .ref (ad 2), .ref (ad 3), .ref (ad 4), .ref (ad 5), .ref (ad 6), .ref (ad 7), .ref (ad 8), .int 0, .int 0, .int 0, .int 0])), (ad 6, .inr (8, [.ref (at_ 0), .ref (at_ 1), .ref (at_ 2), .int 0])), (hm_, .inr (12, [.int 0, .int 0, .ref (am 2), .ref (am 3), .ref (am 4), .int 0, .ref (am 6), .ref (am 7), .ref (am 8), .int 0, .ref (am 10), .ref (am 11), .ref (am 12), .ref (am 13), .ref (am 14), .ref (am 15), .int 0, .ref (am 17), .ref (am 18), .ref (am 19), .ref (am 20), .int 0, .ref (am 22), .int 0, .ref (am 24), .ref (am 25), .ref (am 26), .ref (am 27), .ref (am 28), .ref (am 29), .int 0, .ref (am 31), .ref (am 32), .ref (am 33), .int 0, .ref (am 35), .int 0, .ref (am 37), .ref (am 38), .ref (am 39), .ref (am 40), .ref (am 41), .ref (am 42), .ref (am 43), .int 0, .ref (am 45), .ref (am 46), .ref (am 47), .int 0, .ref (am 49), .int 0, .ref (am 51), .int 0, .ref (am 53), .ref (am 54), .int 1, .int 0, .ref (am 57), .long 0, .ref (am 59), .ref (am 60), .long 0, .int 0, .int 0, .int 0, .int 0, .int 0, .int 0, .ref (am 68), .int 0, .int 0, .ref (am 71), .ref (am 72), .ref (am 73), .ref (am 74), .ref (am 75), .ref (am 76), .ref (am 77), .ref (am 78)]))] H) (hD : va_D (fun q : Nat => s.heap.size ≤ q) [(hc_, .inr (11, [.ref (ad 0), .ref (ad 1), .ref (ad 2), .ref (ad 3), .ref (ad 4), .ref (ad 5), .ref (ad 6), .ref (ad 7), .ref (ad 8), .int 0, .int 0, .int 0, .int 0])), (ad 6, .inr (8, [.ref (at_ 0), .ref (at_ 1), .ref (at_ 2), .int 0])), (hm_, .inr (12, [.int 0, .int 0, .ref (am 2), .ref (am 3), .ref (am 4), .int 0, .ref (am 6), .ref (am 7), .ref (am 8), .int 0, .ref (am 10), .ref (am 11), .ref (am 12), .ref (am 13), .ref (am 14), .ref (am 15), .int 0, .ref (am 17), .ref (am 18), .ref (am 19), .ref (am 20), .int 0, .ref (am 22), .int 0, .ref (am 24), .ref (am 25), .ref (am 26), .ref (am 27), .ref (am 28), .ref (am 29), .int 0, .ref (am 31), .ref (am 32), .ref (am 33), .int 0, .ref (am 35), .int 0, .ref (am 37), .ref (am 38), .ref (am 39), .ref (am 40), .ref (am 41), .ref (am 42), .ref (am 43), .int 0, .ref (am 45), .ref (am 46), .ref (am 47), .int 0, .ref (am 49), .int 0, .ref (am 51), .int 0, .ref (am 53), .ref (am 54), .int 1, .int 0, .ref (am 57), .long 0, .ref (am 59), .ref (am 60), .long 0, .int 0, .int 0, .int 0, .int 0, .int 0, .int 0, .ref (am 68), .int 0, .int 0, .ref (am 71), .ref (am 72), .ref (am 73), .ref (am 74), .ref (am 75), .ref (am 76), .ref (am 77), .ref (am 78)]))]) (hS : va_S (fun q : Nat => s.heap.size ≤ q) s.heap H locs) (ls : Array Slot) (hl : lv_has ls 4 [(3, .int 0), (2, .ref hm_), (1, .ref hc_), (0, .ref b)]) : W p l e room_1 s m #[Value.ref b] below meth c H locs 124 5628 (lw_Z below #[Value.ref b] s) (F0 m 1440 ls []) := by
  obtain ⟨hx, hb, hr, hml, hown, hts, hX, hbl, hlocks, hgv⟩ := id C0
  have hown : s.vm.findClass RL = some m.cls := hown
  have hb : c.code = cL_law := hb
  generalize hAe : (fun q : Nat => s.heap.size ≤ q) = A at hD hS 
  have hA : ∀ q : Nat, s.heap.size ≤ q → A q := fun q h => by rw [← hAe]; exact h
  have hbA : ¬ A b := by rw [← hAe]; exact Nat.not_le.mpr hbl
  refine lv_aload_n hx hb dL_law_1440 rfl (lv_at hl 2 rfl) ?_
  refine lv_aload_n hx hb dL_law_1441 rfl (lv_at hl 3 rfl) ?_
  refine lv_iload_n hx hb dL_law_1442 rfl (lv_at hl 0 rfl) ?_
  refine lv_iconst (v := 1) hx hb dL_law_1443 (by decide) ?_
  refine lv_iadd hx hb dL_law_1444 ?_
  refine lv_topi (fun y_1 ey_1 => ?_)
  obtain rfl : y_1 = 1 := ey_1.trans (by decide)
  refine va_sld hx hb hX hbl hbA hS (by rw [hL6]; unfold vp_in; decide) dL_law_1445 ?_
  refine lv_aload_n hx hb dL_law_1446 rfl (lv_at hl 3 rfl) ?_
  refine lv_iload_n hx hb dL_law_1447 rfl (lv_at hl 0 rfl) ?_
  refine lv_iconst (v := 2) hx hb dL_law_1448 (by decide) ?_
  refine lv_iadd hx hb dL_law_1449 ?_
  refine lv_topi (fun y_2 ey_2 => ?_)
  obtain rfl : y_2 = 2 := ey_2.trans (by decide)
  refine va_sld hx hb hX hbl hbA hS (by rw [hL6]; unfold vp_in; decide) dL_law_1450 ?_
  have hPc := hP.sub (ws' := [(hc_, .inr (11, [.ref (ad 0), .ref (ad 1), .ref (ad 2), .ref (ad 3), .ref (ad 4), .ref (ad 5), .ref (ad 6), .ref (ad 7), .ref (ad 8), .int 0, .int 0, .int 0, .int 0])), (ad 6, .inr (8, [.ref (at_ 0), .ref (at_ 1), .ref (at_ 2), .int 0]))]) [0, 1] rfl
  have hKc := hK.sub (tys' := []) [] rfl
  refine vp_callSi (va_Run.run (va_runV (As := [.int (xs (1 : Int32).toNatClampNeg), .int (xs (2 : Int32).toNatClampNeg)]) (rest := []) ⟨hx, hb, hml, hown, hts⟩ (rt_X11_clash l dC dI hc_ ad at_ (xs (1 : Int32).toNatClampNeg) (xs (2 : Int32).toNatClampNeg)) (cwV 2 hts gL_law_X11_clash rfl rfl rfl (by decide +kernel) ⟨Nat.le_of_ble_eq_true rfl, Nat.le_of_ble_eq_true rfl⟩) ⟨fun a U g mk q => by obtain ⟨q0, qP, qK⟩ := q; exact ⟨q0, qP, va_K.moved (u := U) (U := U.calling g mk a) (Vm.Alike.refl U.vm) qK⟩, va_recv hKc hPc (ci := 11) (q0 := 0) rfl rfl, fun U hU hW => ⟨rfl, by rw [hU]; exact hPc, va_K.moved hW.alike hKc⟩⟩ rfl rfl hl.1 rfl (lv_room (Nat.le_of_ble_eq_true rfl)) dL_law_1451 ⟨by decide +kernel, by decide +kernel⟩)) (fun r_3 hr_3 => ?_)
  obtain rfl := hr_3
  refine lv_aload_n hx hb dL_law_1454 rfl (lv_at hl 1 rfl) ?_
  refine lv_aload_n hx hb dL_law_1455 rfl (lv_at hl 3 rfl) ?_
  refine lv_iload_n hx hb dL_law_1456 rfl (lv_at hl 0 rfl) ?_
  refine lv_iconst (v := 1) hx hb dL_law_1457 (by decide) ?_
  refine lv_iadd hx hb dL_law_1458 ?_
  refine lv_topi (fun y_4 ey_4 => ?_)
  obtain rfl : y_4 = 1 := ey_4.trans (by decide)
  refine va_sld hx hb hX hbl hbA hS (by rw [hL6]; unfold vp_in; decide) dL_law_1459 ?_
  refine lv_aload_n hx hb dL_law_1460 rfl (lv_at hl 3 rfl) ?_
  refine lv_iload_n hx hb dL_law_1461 rfl (lv_at hl 0 rfl) ?_
  refine lv_iconst (v := 2) hx hb dL_law_1462 (by decide) ?_
  refine lv_iadd hx hb dL_law_1463 ?_
  refine lv_topi (fun y_5 ey_5 => ?_)
  obtain rfl : y_5 = 2 := ey_5.trans (by decide)
  refine va_sld hx hb hX hbl hbA hS (by rw [hL6]; unfold vp_in; decide) dL_law_1464 ?_
  have hPc := hP.sub (ws' := [(hm_, .inr (12, [.int 0, .int 0, .ref (am 2), .ref (am 3), .ref (am 4), .int 0, .ref (am 6), .ref (am 7), .ref (am 8), .int 0, .ref (am 10), .ref (am 11), .ref (am 12), .ref (am 13), .ref (am 14), .ref (am 15), .int 0, .ref (am 17), .ref (am 18), .ref (am 19), .ref (am 20), .int 0, .ref (am 22), .int 0, .ref (am 24), .ref (am 25), .ref (am 26), .ref (am 27), .ref (am 28), .ref (am 29), .int 0, .ref (am 31), .ref (am 32), .ref (am 33), .int 0, .ref (am 35), .int 0, .ref (am 37), .ref (am 38), .ref (am 39), .ref (am 40), .ref (am 41), .ref (am 42), .ref (am 43), .int 0, .ref (am 45), .ref (am 46), .ref (am 47), .int 0, .ref (am 49), .int 0, .ref (am 51), .int 0, .ref (am 53), .ref (am 54), .int 1, .int 0, .ref (am 57), .long 0, .ref (am 59), .ref (am 60), .long 0, .int 0, .int 0, .int 0, .int 0, .int 0, .int 0, .ref (am 68), .int 0, .int 0, .ref (am 71), .ref (am 72), .ref (am 73), .ref (am 74), .ref (am 75), .ref (am 76), .ref (am 77), .ref (am 78)]))]) [2] rfl
  have hKc := hK.sub (tys' := []) [] rfl
  refine vp_callSi (va_Run.run (va_runV (As := [.int (xs (1 : Int32).toNatClampNeg), .int (xs (2 : Int32).toNatClampNeg)]) (rest := [.int (-2)]) ⟨hx, hb, hml, hown, hts⟩ (rt_X12_clash l dC dI hm_ am (xs (1 : Int32).toNatClampNeg) (xs (2 : Int32).toNatClampNeg)) (cwV 2 hts gL_law_X12_clash rfl rfl rfl (by decide +kernel) ⟨Nat.le_of_ble_eq_true rfl, Nat.le_of_ble_eq_true rfl⟩) ⟨fun a U g mk q => by obtain ⟨q0, qP, qK⟩ := q; exact ⟨q0, qP, va_K.moved (u := U) (U := U.calling g mk a) (Vm.Alike.refl U.vm) qK⟩, va_recv hKc hPc (ci := 12) (q0 := 0) rfl rfl, fun U hU hW => ⟨rfl, by rw [hU]; exact hPc, va_K.moved hW.alike hKc⟩⟩ rfl rfl hl.1 rfl (lv_room (Nat.le_of_ble_eq_true rfl)) dL_law_1465 ⟨by decide +kernel, by decide +kernel⟩)) (fun r_6 hr_6 => ?_)
  obtain rfl := hr_6
  refine lv_icmp_eq (tgt := 1837) hx hb dL_law_1468 (by decide) (fun _ => ?_) (fun c9 => absurd (by decide) c9)
  exact law_fin C0 hL6 hS (by decide +kernel) (by decide +kernel) ls (lv_sub hl [3, 2, 1, 0] rfl)
set_option maxHeartbeats 1000000 in
set_option maxRecDepth 100000 in
theorem law_b30 {p : Program} {l : Launch} {e : Env} {s : State} {m : MethodId} {below : List Frame} {meth : Method} {c : Code} {dC : Nat → ClassId} {dI : Nat → Nat → Nat} {b L : Nat} {xs : Nat → Int32} (C0 : lw_At p s m meth c b L xs) (hL6 : L = 6) {hc_ hm_ : Nat} {ad ak am : Nat → Nat} {ck cs : Nat → ClassId} {fi : Nat → Option Nat} {hr_ : Nat} (hfi : fi 0 = some hr_) {H : Heap} {locs : List Loc} (hK : va_K (dC, dI) vwCl [(ck 0, .array .int), (ck 1, .int), (cs 49, .int)] s) (hP : va_P (dC, dI) vwCl [(hc_, .inr (11, [.ref (ad 0), .ref (ad 1), .ref (ad 2), .ref (ad 3), .ref (ad 4), .ref (ad 5), .ref (ad 6), .ref (ad 7), .ref (ad 8), .int 0, .int 0, .int 0, .int 0])), (ad 7, .inr (1, [.ref (ak 0), .int 0, .int 0, .int 0])), (ak 0, .inl (ck 0, 4, .inr (.inr (.inr (.inr fi))))), (hr_, .inl (ck 1, 15, .inl (fun _ => (0 : Int32)))), (hm_, .inr (12, [.int 0, .int 0, .ref (am 2), .ref (am 3), .ref (am 4), .int 0, .ref (am 6), .ref (am 7), .ref (am 8), .int 0, .ref (am 10), .ref (am 11), .ref (am 12), .ref (am 13), .ref (am 14), .ref (am 15), .int 0, .ref (am 17), .ref (am 18), .ref (am 19), .ref (am 20), .int 0, .ref (am 22), .int 0, .ref (am 24), .ref (am 25), .ref (am 26), .ref (am 27), .ref (am 28), .ref (am 29), .int 0, .ref (am 31), .ref (am 32), .ref (am 33), .int 0, .ref (am 35), .int 0, .ref (am 37), .ref (am 38), .ref (am 39), .ref (am 40), .ref (am 41), .ref (am 42), .ref (am 43), .int 0, .ref (am 45), .ref (am 46), .ref (am 47), .int 0, .ref (am 49), .int 0, .ref (am 51), .int 0, .ref (am 53), .ref (am 54), .int 1, .int 0, .ref (am 57), .long 0, .ref (am 59), .ref (am 60), .long 0, .int 0, .int 0, .int 0, .int 0, .int 0, .int 0, .ref (am 68), .int 0, .int 0, .ref (am 71), .ref (am 72), .ref (am 73), .ref (am 74), .ref (am 75), .ref (am 76), .ref (am 77), .ref (am 78)])), (am 49, .inl (cs 49, 60, .inl (fun _ => (0 : Int32))))] H) (hD : va_D (fun q : Nat => s.heap.size ≤ q) [(hc_, .inr (11, [.ref (ad 0), .ref (ad 1), .ref (ad 2), .ref (ad 3), .ref (ad 4), .ref (ad 5), .ref (ad 6), .ref (ad 7), .ref (ad 8), .int 0, .int 0, .int 0, .int 0])), (ad 7, .inr (1, [.ref (ak 0), .int 0, .int 0, .int 0])), (ak 0, .inl (ck 0, 4, .inr (.inr (.inr (.inr fi))))), (hr_, .inl (ck 1, 15, .inl (fun _ => (0 : Int32)))), (hm_, .inr (12, [.int 0, .int 0, .ref (am 2), .ref (am 3), .ref (am 4), .int 0, .ref (am 6), .ref (am 7), .ref (am 8), .int 0, .ref (am 10), .ref (am 11), .ref (am 12), .ref (am 13), .ref (am 14), .ref (am 15), .int 0, .ref (am 17), .ref (am 18), .ref (am 19), .ref (am 20), .int 0, .ref (am 22), .int 0, .ref (am 24), .ref (am 25), .ref (am 26), .ref (am 27), .ref (am 28), .ref (am 29), .int 0, .ref (am 31), .ref (am 32), .ref (am 33), .int 0, .ref (am 35), .int 0, .ref (am 37), .ref (am 38), .ref (am 39), .ref (am 40), .ref (am 41), .ref (am 42), .ref (am 43), .int 0, .ref (am 45), .ref (am 46), .ref (am 47), .int 0, .ref (am 49), .int 0, .ref (am 51), .int 0, .ref (am 53), .ref (am 54), .int 1, .int 0, .ref (am 57), .long 0, .ref (am 59), .ref (am 60), .long 0, .int 0, .int 0, .int 0, .int 0, .int 0, .int 0, .ref (am 68), .int 0, .int 0, .ref (am 71), .ref (am 72), .ref (am 73), .ref (am 74), .ref (am 75), .ref (am 76), .ref (am 77), .ref (am 78)])), (am 49, .inl (cs 49, 60, .inl (fun _ => (0 : Int32))))]) (hS : va_S (fun q : Nat => s.heap.size ≤ q) s.heap H locs) (ls : Array Slot) (hl : lv_has ls 4 [(3, .int 0), (2, .ref hm_), (1, .ref hc_), (0, .ref b)]) : W p l e room_1 s m #[Value.ref b] below meth c H locs 124 5628 (lw_Z below #[Value.ref b] s) (F0 m 1473 ls []) := by
  obtain ⟨hx, hb, hr, hml, hown, hts, hX, hbl, hlocks, hgv⟩ := id C0
  have hown : s.vm.findClass RL = some m.cls := hown
  have hb : c.code = cL_law := hb
  generalize hAe : (fun q : Nat => s.heap.size ≤ q) = A at hD hS 
  have hA : ∀ q : Nat, s.heap.size ≤ q → A q := fun q h => by rw [← hAe]; exact h
  have hbA : ¬ A b := by rw [← hAe]; exact Nat.not_le.mpr hbl
  refine lv_aload_n hx hb dL_law_1473 rfl (lv_at hl 2 rfl) ?_
  refine lv_aload_n hx hb dL_law_1474 rfl (lv_at hl 3 rfl) ?_
  refine lv_iload_n hx hb dL_law_1475 rfl (lv_at hl 0 rfl) ?_
  refine lv_iconst (v := 1) hx hb dL_law_1476 (by decide) ?_
  refine lv_iadd hx hb dL_law_1477 ?_
  refine lv_topi (fun y_1 ey_1 => ?_)
  obtain rfl : y_1 = 1 := ey_1.trans (by decide)
  refine va_sld hx hb hX hbl hbA hS (by rw [hL6]; unfold vp_in; decide) dL_law_1478 ?_
  refine lv_i2l (v := (xs (1 : Int32).toNatClampNeg).toInt64) hx hb dL_law_1479 rfl ?_
  refine lv_bipush (v := 32) hx hb dL_law_1480 (by decide) ?_
  refine lv_lshl (v := ((xs (1 : Int32).toNatClampNeg).toInt64) <<< ((32 : Int32).toInt64 &&& 63)) hx hb dL_law_1482 rfl ?_
  refine lv_aload_n hx hb dL_law_1483 rfl (lv_at hl 3 rfl) ?_
  refine lv_iload_n hx hb dL_law_1484 rfl (lv_at hl 0 rfl) ?_
  refine lv_iconst (v := 2) hx hb dL_law_1485 (by decide) ?_
  refine lv_iadd hx hb dL_law_1486 ?_
  refine lv_topi (fun y_2 ey_2 => ?_)
  obtain rfl : y_2 = 2 := ey_2.trans (by decide)
  refine va_sld hx hb hX hbl hbA hS (by rw [hL6]; unfold vp_in; decide) dL_law_1487 ?_
  refine lv_i2l (v := (xs (2 : Int32).toNatClampNeg).toInt64) hx hb dL_law_1488 rfl ?_
  refine lv_ldc2 (v := 4294967295) hx hb hown (hts (.constantLong RL 42 (4294967295)) (by decide +kernel)) dL_law_1489 ?_
  refine lv_land hx hb dL_law_1492 ?_
  refine lv_lor hx hb dL_law_1493 ?_
  have hPc := hP.sub (ws' := [(hc_, .inr (11, [.ref (ad 0), .ref (ad 1), .ref (ad 2), .ref (ad 3), .ref (ad 4), .ref (ad 5), .ref (ad 6), .ref (ad 7), .ref (ad 8), .int 0, .int 0, .int 0, .int 0])), (ad 7, .inr (1, [.ref (ak 0), .int 0, .int 0, .int 0])), (ak 0, .inl (ck 0, 4, .inr (.inr (.inr (.inr fi))))), (hr_, .inl (ck 1, 15, .inl (fun _ => (0 : Int32))))]) [0, 1, 2, 3] rfl
  have hKc := hK.sub (tys' := [(ck 0, .array .int), (ck 1, .int)]) [0, 1] rfl
  have hDc := hD.sub (ws' := [(hc_, .inr (11, [.ref (ad 0), .ref (ad 1), .ref (ad 2), .ref (ad 3), .ref (ad 4), .ref (ad 5), .ref (ad 6), .ref (ad 7), .ref (ad 8), .int 0, .int 0, .int 0, .int 0])), (ad 7, .inr (1, [.ref (ak 0), .int 0, .int 0, .int 0])), (ak 0, .inl (ck 0, 4, .inr (.inr (.inr (.inr fi))))), (hr_, .inl (ck 1, 15, .inl (fun _ => (0 : Int32))))]) [0, 1, 2, 3] (by decide) rfl
  have hFc := va_free (wc := [(hc_, .inr (11, [.ref (ad 0), .ref (ad 1), .ref (ad 2), .ref (ad 3), .ref (ad 4), .ref (ad 5), .ref (ad 6), .ref (ad 7), .ref (ad 8), .int 0, .int 0, .int 0, .int 0])), (ad 7, .inr (1, [.ref (ak 0), .int 0, .int 0, .int 0])), (ak 0, .inl (ck 0, 4, .inr (.inr (.inr (.inr fi))))), (hr_, .inl (ck 1, 15, .inl (fun _ => (0 : Int32))))]) hD hS hA [0, 1, 2, 3] rfl
  refine va_calli (va_runV (As := [.long ((((xs (1 : Int32).toNatClampNeg).toInt64) <<< ((32 : Int32).toInt64 &&& 63)) ||| (((xs (2 : Int32).toNatClampNeg).toInt64) &&& 4294967295))]) (rest := []) ⟨hx, hb, hml, hown, hts⟩ (rt_X11_row l dC dI H.size hc_ ad hr_ ak (ck 0) (ck 1) fi (fun _ => (0 : Int32)) ((((xs (1 : Int32).toNatClampNeg).toInt64) <<< ((32 : Int32).toInt64 &&& 63)) ||| (((xs (2 : Int32).toNatClampNeg).toInt64) &&& 4294967295)) hfi) (cwV 1 hts gL_law_X11_row rfl rfl rfl (by decide +kernel) ⟨Nat.le_of_ble_eq_true rfl, Nat.le_of_ble_eq_true rfl⟩) ⟨fun a U g mk q => by obtain ⟨q0, q1, qP, qK, qD⟩ := q; exact ⟨q0, q1, qP, va_K.moved (u := U) (U := U.calling g mk a) (Vm.Alike.refl U.vm) qK, qD⟩, va_recv hKc hPc (ci := 11) (q0 := 0) rfl rfl, fun U hU hW => ⟨rfl, by rw [hU], by rw [hU]; exact hPc, va_K.moved hW.alike hKc, hDc.weaken (fun _ _ _ _ => trivial)⟩⟩ rfl rfl hl.1 rfl (lv_room (Nat.le_of_ble_eq_true rfl)) dL_law_1494 ⟨by decide +kernel, by decide +kernel⟩) hS (fun q _ h => hFc q h) hFc (fun r_3 u t H1 locs ht hvm hr_3 hB hz1 hk1 hS => ?_)
  obtain ⟨⟩ := u
  have hP1 : va_P (dC, dI) vwCl [] H1 := fun k q h => by simp at h
  have hD1 : va_D (va_A [(hc_, .inr (11, [.ref (ad 0), .ref (ad 1), .ref (ad 2), .ref (ad 3), .ref (ad 4), .ref (ad 5), .ref (ad 6), .ref (ad 7), .ref (ad 8), .int 0, .int 0, .int 0, .int 0])), (ad 7, .inr (1, [.ref (ak 0), .int 0, .int 0, .int 0])), (ak 0, .inl (ck 0, 4, .inr (.inr (.inr (.inr fi))))), (hr_, .inl (ck 1, 15, .inl (fun _ => (0 : Int32))))] H.size) [] := ⟨fun i j p q h => by simp at h, fun k q h => by simp at h⟩
  obtain ⟨hP, hD⟩ := va_join (wr := [(hm_, .inr (12, [.int 0, .int 0, .ref (am 2), .ref (am 3), .ref (am 4), .int 0, .ref (am 6), .ref (am 7), .ref (am 8), .int 0, .ref (am 10), .ref (am 11), .ref (am 12), .ref (am 13), .ref (am 14), .ref (am 15), .int 0, .ref (am 17), .ref (am 18), .ref (am 19), .ref (am 20), .int 0, .ref (am 22), .int 0, .ref (am 24), .ref (am 25), .ref (am 26), .ref (am 27), .ref (am 28), .ref (am 29), .int 0, .ref (am 31), .ref (am 32), .ref (am 33), .int 0, .ref (am 35), .int 0, .ref (am 37), .ref (am 38), .ref (am 39), .ref (am 40), .ref (am 41), .ref (am 42), .ref (am 43), .int 0, .ref (am 45), .ref (am 46), .ref (am 47), .int 0, .ref (am 49), .int 0, .ref (am 51), .int 0, .ref (am 53), .ref (am 54), .int 1, .int 0, .ref (am 57), .long 0, .ref (am 59), .ref (am 60), .long 0, .int 0, .int 0, .int 0, .int 0, .int 0, .int 0, .ref (am 68), .int 0, .int 0, .ref (am 71), .ref (am 72), .ref (am 73), .ref (am 74), .ref (am 75), .ref (am 76), .ref (am 77), .ref (am 78)])), (am 49, .inl (cs 49, 60, .inl (fun _ => (0 : Int32))))]) (w1 := []) hP hD [0, 1, 2, 3] [4, 5] rfl rfl (by decide) (by decide) hk1 hFc hP1 hD1
  generalize H1 = H at hP hS ⊢
  have hP : va_P (dC, dI) vwCl [(hm_, .inr (12, [.int 0, .int 0, .ref (am 2), .ref (am 3), .ref (am 4), .int 0, .ref (am 6), .ref (am 7), .ref (am 8), .int 0, .ref (am 10), .ref (am 11), .ref (am 12), .ref (am 13), .ref (am 14), .ref (am 15), .int 0, .ref (am 17), .ref (am 18), .ref (am 19), .ref (am 20), .int 0, .ref (am 22), .int 0, .ref (am 24), .ref (am 25), .ref (am 26), .ref (am 27), .ref (am 28), .ref (am 29), .int 0, .ref (am 31), .ref (am 32), .ref (am 33), .int 0, .ref (am 35), .int 0, .ref (am 37), .ref (am 38), .ref (am 39), .ref (am 40), .ref (am 41), .ref (am 42), .ref (am 43), .int 0, .ref (am 45), .ref (am 46), .ref (am 47), .int 0, .ref (am 49), .int 0, .ref (am 51), .int 0, .ref (am 53), .ref (am 54), .int 1, .int 0, .ref (am 57), .long 0, .ref (am 59), .ref (am 60), .long 0, .int 0, .int 0, .int 0, .int 0, .int 0, .int 0, .ref (am 68), .int 0, .int 0, .ref (am 71), .ref (am 72), .ref (am 73), .ref (am 74), .ref (am 75), .ref (am 76), .ref (am 77), .ref (am 78)])), (am 49, .inl (cs 49, 60, .inl (fun _ => (0 : Int32))))] H := hP
  have hD : va_D A [(hm_, .inr (12, [.int 0, .int 0, .ref (am 2), .ref (am 3), .ref (am 4), .int 0, .ref (am 6), .ref (am 7), .ref (am 8), .int 0, .ref (am 10), .ref (am 11), .ref (am 12), .ref (am 13), .ref (am 14), .ref (am 15), .int 0, .ref (am 17), .ref (am 18), .ref (am 19), .ref (am 20), .int 0, .ref (am 22), .int 0, .ref (am 24), .ref (am 25), .ref (am 26), .ref (am 27), .ref (am 28), .ref (am 29), .int 0, .ref (am 31), .ref (am 32), .ref (am 33), .int 0, .ref (am 35), .int 0, .ref (am 37), .ref (am 38), .ref (am 39), .ref (am 40), .ref (am 41), .ref (am 42), .ref (am 43), .int 0, .ref (am 45), .ref (am 46), .ref (am 47), .int 0, .ref (am 49), .int 0, .ref (am 51), .int 0, .ref (am 53), .ref (am 54), .int 1, .int 0, .ref (am 57), .long 0, .ref (am 59), .ref (am 60), .long 0, .int 0, .int 0, .int 0, .int 0, .int 0, .int 0, .ref (am 68), .int 0, .int 0, .ref (am 71), .ref (am 72), .ref (am 73), .ref (am 74), .ref (am 75), .ref (am 76), .ref (am 77), .ref (am 78)])), (am 49, .inl (cs 49, 60, .inl (fun _ => (0 : Int32))))] := hD
  try dsimp only at hr_3
  refine lv_aload_n hx hb dL_law_1497 rfl (lv_at hl 1 rfl) ?_
  refine lv_aload_n hx hb dL_law_1498 rfl (lv_at hl 3 rfl) ?_
  refine lv_iload_n hx hb dL_law_1499 rfl (lv_at hl 0 rfl) ?_
  refine lv_iconst (v := 1) hx hb dL_law_1500 (by decide) ?_
  refine lv_iadd hx hb dL_law_1501 ?_
  refine lv_topi (fun y_4 ey_4 => ?_)
  obtain rfl : y_4 = 1 := ey_4.trans (by decide)
  refine va_sld hx hb hX hbl hbA hS (by rw [hL6]; unfold vp_in; decide) dL_law_1502 ?_
  refine lv_i2l (v := (xs (1 : Int32).toNatClampNeg).toInt64) hx hb dL_law_1503 rfl ?_
  refine lv_bipush (v := 32) hx hb dL_law_1504 (by decide) ?_
  refine lv_lshl (v := ((xs (1 : Int32).toNatClampNeg).toInt64) <<< ((32 : Int32).toInt64 &&& 63)) hx hb dL_law_1506 rfl ?_
  refine lv_aload_n hx hb dL_law_1507 rfl (lv_at hl 3 rfl) ?_
  refine lv_iload_n hx hb dL_law_1508 rfl (lv_at hl 0 rfl) ?_
  refine lv_iconst (v := 2) hx hb dL_law_1509 (by decide) ?_
  refine lv_iadd hx hb dL_law_1510 ?_
  refine lv_topi (fun y_5 ey_5 => ?_)
  obtain rfl : y_5 = 2 := ey_5.trans (by decide)
  refine va_sld hx hb hX hbl hbA hS (by rw [hL6]; unfold vp_in; decide) dL_law_1511 ?_
  refine lv_i2l (v := (xs (2 : Int32).toNatClampNeg).toInt64) hx hb dL_law_1512 rfl ?_
  refine lv_ldc2 (v := 4294967295) hx hb hown (hts (.constantLong RL 42 (4294967295)) (by decide +kernel)) dL_law_1513 ?_
  refine lv_land hx hb dL_law_1516 ?_
  refine lv_lor hx hb dL_law_1517 ?_
  have hPc := hP.sub (ws' := [(hm_, .inr (12, [.int 0, .int 0, .ref (am 2), .ref (am 3), .ref (am 4), .int 0, .ref (am 6), .ref (am 7), .ref (am 8), .int 0, .ref (am 10), .ref (am 11), .ref (am 12), .ref (am 13), .ref (am 14), .ref (am 15), .int 0, .ref (am 17), .ref (am 18), .ref (am 19), .ref (am 20), .int 0, .ref (am 22), .int 0, .ref (am 24), .ref (am 25), .ref (am 26), .ref (am 27), .ref (am 28), .ref (am 29), .int 0, .ref (am 31), .ref (am 32), .ref (am 33), .int 0, .ref (am 35), .int 0, .ref (am 37), .ref (am 38), .ref (am 39), .ref (am 40), .ref (am 41), .ref (am 42), .ref (am 43), .int 0, .ref (am 45), .ref (am 46), .ref (am 47), .int 0, .ref (am 49), .int 0, .ref (am 51), .int 0, .ref (am 53), .ref (am 54), .int 1, .int 0, .ref (am 57), .long 0, .ref (am 59), .ref (am 60), .long 0, .int 0, .int 0, .int 0, .int 0, .int 0, .int 0, .ref (am 68), .int 0, .int 0, .ref (am 71), .ref (am 72), .ref (am 73), .ref (am 74), .ref (am 75), .ref (am 76), .ref (am 77), .ref (am 78)])), (am 49, .inl (cs 49, 60, .inl (fun _ => (0 : Int32))))]) [0, 1] rfl
  have hKc := hK.sub (tys' := [(cs 49, .int)]) [2] rfl
  have hDc := hD.sub (ws' := [(hm_, .inr (12, [.int 0, .int 0, .ref (am 2), .ref (am 3), .ref (am 4), .int 0, .ref (am 6), .ref (am 7), .ref (am 8), .int 0, .ref (am 10), .ref (am 11), .ref (am 12), .ref (am 13), .ref (am 14), .ref (am 15), .int 0, .ref (am 17), .ref (am 18), .ref (am 19), .ref (am 20), .int 0, .ref (am 22), .int 0, .ref (am 24), .ref (am 25), .ref (am 26), .ref (am 27), .ref (am 28), .ref (am 29), .int 0, .ref (am 31), .ref (am 32), .ref (am 33), .int 0, .ref (am 35), .int 0, .ref (am 37), .ref (am 38), .ref (am 39), .ref (am 40), .ref (am 41), .ref (am 42), .ref (am 43), .int 0, .ref (am 45), .ref (am 46), .ref (am 47), .int 0, .ref (am 49), .int 0, .ref (am 51), .int 0, .ref (am 53), .ref (am 54), .int 1, .int 0, .ref (am 57), .long 0, .ref (am 59), .ref (am 60), .long 0, .int 0, .int 0, .int 0, .int 0, .int 0, .int 0, .ref (am 68), .int 0, .int 0, .ref (am 71), .ref (am 72), .ref (am 73), .ref (am 74), .ref (am 75), .ref (am 76), .ref (am 77), .ref (am 78)])), (am 49, .inl (cs 49, 60, .inl (fun _ => (0 : Int32))))]) [0, 1] (by decide) rfl
  have hFc := va_free (wc := [(hm_, .inr (12, [.int 0, .int 0, .ref (am 2), .ref (am 3), .ref (am 4), .int 0, .ref (am 6), .ref (am 7), .ref (am 8), .int 0, .ref (am 10), .ref (am 11), .ref (am 12), .ref (am 13), .ref (am 14), .ref (am 15), .int 0, .ref (am 17), .ref (am 18), .ref (am 19), .ref (am 20), .int 0, .ref (am 22), .int 0, .ref (am 24), .ref (am 25), .ref (am 26), .ref (am 27), .ref (am 28), .ref (am 29), .int 0, .ref (am 31), .ref (am 32), .ref (am 33), .int 0, .ref (am 35), .int 0, .ref (am 37), .ref (am 38), .ref (am 39), .ref (am 40), .ref (am 41), .ref (am 42), .ref (am 43), .int 0, .ref (am 45), .ref (am 46), .ref (am 47), .int 0, .ref (am 49), .int 0, .ref (am 51), .int 0, .ref (am 53), .ref (am 54), .int 1, .int 0, .ref (am 57), .long 0, .ref (am 59), .ref (am 60), .long 0, .int 0, .int 0, .int 0, .int 0, .int 0, .int 0, .ref (am 68), .int 0, .int 0, .ref (am 71), .ref (am 72), .ref (am 73), .ref (am 74), .ref (am 75), .ref (am 76), .ref (am 77), .ref (am 78)])), (am 49, .inl (cs 49, 60, .inl (fun _ => (0 : Int32))))]) hD hS hA [0, 1] rfl
  refine va_calli (va_runV (As := [.long ((((xs (1 : Int32).toNatClampNeg).toInt64) <<< ((32 : Int32).toInt64 &&& 63)) ||| (((xs (2 : Int32).toNatClampNeg).toInt64) &&& 4294967295))]) (rest := [.int r_3]) ⟨hx, hb, hml, hown, hts⟩ (rt_X12_row l dC dI H.size hm_ am cs (fun _ => (0 : Int32)) ((((xs (1 : Int32).toNatClampNeg).toInt64) <<< ((32 : Int32).toInt64 &&& 63)) ||| (((xs (2 : Int32).toNatClampNeg).toInt64) &&& 4294967295))) (cwV 1 hts gL_law_X12_row rfl rfl rfl (by decide +kernel) ⟨Nat.le_of_ble_eq_true rfl, Nat.le_of_ble_eq_true rfl⟩) ⟨fun a U g mk q => by obtain ⟨q0, q1, qP, qK, qD⟩ := q; exact ⟨q0, q1, qP, va_K.moved (u := U) (U := U.calling g mk a) (Vm.Alike.refl U.vm) qK, qD⟩, va_recv hKc hPc (ci := 12) (q0 := 0) rfl rfl, fun U hU hW => ⟨rfl, by rw [hU], by rw [hU]; exact hPc, va_K.moved hW.alike hKc, hDc.weaken (fun _ _ _ _ => trivial)⟩⟩ rfl rfl hl.1 rfl (lv_room (Nat.le_of_ble_eq_true rfl)) dL_law_1518 ⟨by decide +kernel, by decide +kernel⟩) hS (fun q _ h => hFc q h) hFc (fun r_6 u t H1 locs ht hvm hr_6 hB hz1 hk1 hS => ?_)
  obtain ⟨⟩ := u
  have hP1 : va_P (dC, dI) vwCl [] H1 := fun k q h => by simp at h
  have hD1 : va_D (va_A [(hm_, .inr (12, [.int 0, .int 0, .ref (am 2), .ref (am 3), .ref (am 4), .int 0, .ref (am 6), .ref (am 7), .ref (am 8), .int 0, .ref (am 10), .ref (am 11), .ref (am 12), .ref (am 13), .ref (am 14), .ref (am 15), .int 0, .ref (am 17), .ref (am 18), .ref (am 19), .ref (am 20), .int 0, .ref (am 22), .int 0, .ref (am 24), .ref (am 25), .ref (am 26), .ref (am 27), .ref (am 28), .ref (am 29), .int 0, .ref (am 31), .ref (am 32), .ref (am 33), .int 0, .ref (am 35), .int 0, .ref (am 37), .ref (am 38), .ref (am 39), .ref (am 40), .ref (am 41), .ref (am 42), .ref (am 43), .int 0, .ref (am 45), .ref (am 46), .ref (am 47), .int 0, .ref (am 49), .int 0, .ref (am 51), .int 0, .ref (am 53), .ref (am 54), .int 1, .int 0, .ref (am 57), .long 0, .ref (am 59), .ref (am 60), .long 0, .int 0, .int 0, .int 0, .int 0, .int 0, .int 0, .ref (am 68), .int 0, .int 0, .ref (am 71), .ref (am 72), .ref (am 73), .ref (am 74), .ref (am 75), .ref (am 76), .ref (am 77), .ref (am 78)])), (am 49, .inl (cs 49, 60, .inl (fun _ => (0 : Int32))))] H.size) [] := ⟨fun i j p q h => by simp at h, fun k q h => by simp at h⟩
  obtain ⟨hP, hD⟩ := va_join (wr := []) (w1 := []) hP hD [0, 1] [] rfl rfl (by decide) (by decide) hk1 hFc hP1 hD1
  generalize H1 = H at hP hS ⊢
  have hP : va_P (dC, dI) vwCl [] H := hP
  have hD : va_D A [] := hD
  try dsimp only at hr_6
  have hq : (r_3 : Int32) = r_6 := by
    rcases hr_3 with ⟨a0, e0⟩ | ⟨a0, e0⟩ <;> rcases hr_6 with ⟨a1, e1⟩ | ⟨a1, e1⟩ <;> first | (rw [e0, e1]; done) | (exfalso; (try simp only [fa_lt, fa_le, fa_eq, fa_lt64, fa_le64, fa_eq64, Int32.reduceToInt, Int64.reduceToInt, zi_ite] at a0); (try simp only [fa_lt, fa_le, fa_eq, fa_lt64, fa_le64, fa_eq64, Int32.reduceToInt, Int64.reduceToInt, zi_ite] at a1); omega)
  refine lv_icmp_eq (tgt := 1837) hx hb dL_law_1521 (by decide) (fun _ => ?_) (fun c9 => absurd hq c9)
  exact law_fin C0 hL6 hS (by decide +kernel) (by decide +kernel) ls (lv_sub hl [3, 2, 1, 0] rfl)
set_option maxHeartbeats 1000000 in
set_option maxRecDepth 100000 in
theorem law_b31 {p : Program} {l : Launch} {e : Env} {s : State} {m : MethodId} {below : List Frame} {meth : Method} {c : Code} {dC : Nat → ClassId} {dI : Nat → Nat → Nat} {b L : Nat} {xs : Nat → Int32} (C0 : lw_At p s m meth c b L xs) (hL6 : L = 6) {hc_ hm_ : Nat} {ad ak am : Nat → Nat} {cs : Nat → ClassId} (hT : rt_T (fun q : Nat => s.heap.size ≤ q) s s.heap) {H : Heap} {locs : List Loc} (hK : va_K (dC, dI) vwCl [(cs 73, .int), (cs 74, .int)] s) (hP : va_P (dC, dI) vwCl [(hc_, .inr (11, [.ref (ad 0), .ref (ad 1), .ref (ad 2), .ref (ad 3), .ref (ad 4), .ref (ad 5), .ref (ad 6), .ref (ad 7), .ref (ad 8), .int 0, .int 0, .int 0, .int 0])), (ad 7, .inr (1, [.ref (ak 0), .int 0, .int 0, .int 0])), (hm_, .inr (12, [.int 0, .int 0, .ref (am 2), .ref (am 3), .ref (am 4), .int 0, .ref (am 6), .ref (am 7), .ref (am 8), .int 0, .ref (am 10), .ref (am 11), .ref (am 12), .ref (am 13), .ref (am 14), .ref (am 15), .int 0, .ref (am 17), .ref (am 18), .ref (am 19), .ref (am 20), .int 0, .ref (am 22), .int 0, .ref (am 24), .ref (am 25), .ref (am 26), .ref (am 27), .ref (am 28), .ref (am 29), .int 0, .ref (am 31), .ref (am 32), .ref (am 33), .int 0, .ref (am 35), .int 0, .ref (am 37), .ref (am 38), .ref (am 39), .ref (am 40), .ref (am 41), .ref (am 42), .ref (am 43), .int 0, .ref (am 45), .ref (am 46), .ref (am 47), .int 0, .ref (am 49), .int 0, .ref (am 51), .int 0, .ref (am 53), .ref (am 54), .int 1, .int 0, .ref (am 57), .long 0, .ref (am 59), .ref (am 60), .long 0, .int 0, .int 0, .int 0, .int 0, .int 0, .int 0, .ref (am 68), .int 0, .int 0, .ref (am 71), .ref (am 72), .ref (am 73), .ref (am 74), .ref (am 75), .ref (am 76), .ref (am 77), .ref (am 78)])), (am 73, .inl (cs 73, 5, .inl (fun _ => (0 : Int32)))), (am 74, .inl (cs 74, 5, .inl (fun _ => (0 : Int32))))] H) (hD : va_D (fun q : Nat => s.heap.size ≤ q) [(hc_, .inr (11, [.ref (ad 0), .ref (ad 1), .ref (ad 2), .ref (ad 3), .ref (ad 4), .ref (ad 5), .ref (ad 6), .ref (ad 7), .ref (ad 8), .int 0, .int 0, .int 0, .int 0])), (ad 7, .inr (1, [.ref (ak 0), .int 0, .int 0, .int 0])), (hm_, .inr (12, [.int 0, .int 0, .ref (am 2), .ref (am 3), .ref (am 4), .int 0, .ref (am 6), .ref (am 7), .ref (am 8), .int 0, .ref (am 10), .ref (am 11), .ref (am 12), .ref (am 13), .ref (am 14), .ref (am 15), .int 0, .ref (am 17), .ref (am 18), .ref (am 19), .ref (am 20), .int 0, .ref (am 22), .int 0, .ref (am 24), .ref (am 25), .ref (am 26), .ref (am 27), .ref (am 28), .ref (am 29), .int 0, .ref (am 31), .ref (am 32), .ref (am 33), .int 0, .ref (am 35), .int 0, .ref (am 37), .ref (am 38), .ref (am 39), .ref (am 40), .ref (am 41), .ref (am 42), .ref (am 43), .int 0, .ref (am 45), .ref (am 46), .ref (am 47), .int 0, .ref (am 49), .int 0, .ref (am 51), .int 0, .ref (am 53), .ref (am 54), .int 1, .int 0, .ref (am 57), .long 0, .ref (am 59), .ref (am 60), .long 0, .int 0, .int 0, .int 0, .int 0, .int 0, .int 0, .ref (am 68), .int 0, .int 0, .ref (am 71), .ref (am 72), .ref (am 73), .ref (am 74), .ref (am 75), .ref (am 76), .ref (am 77), .ref (am 78)])), (am 73, .inl (cs 73, 5, .inl (fun _ => (0 : Int32)))), (am 74, .inl (cs 74, 5, .inl (fun _ => (0 : Int32))))]) (hS : va_S (fun q : Nat => s.heap.size ≤ q) s.heap H locs) (ls : Array Slot) (hl : lv_has ls 4 [(3, .int 0), (2, .ref hm_), (1, .ref hc_), (0, .ref b)]) : W p l e room_1 s m #[Value.ref b] below meth c H locs 124 5628 (lw_Z below #[Value.ref b] s) (F0 m 1526 ls []) := by
  obtain ⟨hx, hb, hr, hml, hown, hts, hX, hbl, hlocks, hgv⟩ := id C0
  have hown : s.vm.findClass RL = some m.cls := hown
  have hb : c.code = cL_law := hb
  generalize hAe : (fun q : Nat => s.heap.size ≤ q) = A at hD hS hT
  have hA : ∀ q : Nat, s.heap.size ≤ q → A q := fun q h => by rw [← hAe]; exact h
  have hbA : ¬ A b := by rw [← hAe]; exact Nat.not_le.mpr hbl
  refine lv_aload_n hx hb dL_law_1526 rfl (lv_at hl 2 rfl) ?_
  refine lv_aload_n hx hb dL_law_1527 rfl (lv_at hl 3 rfl) ?_
  refine lv_iload_n hx hb dL_law_1528 rfl (lv_at hl 0 rfl) ?_
  refine lv_iconst (v := 1) hx hb dL_law_1529 (by decide) ?_
  refine lv_iadd hx hb dL_law_1530 ?_
  refine lv_topi (fun y_1 ey_1 => ?_)
  obtain rfl : y_1 = 1 := ey_1.trans (by decide)
  refine va_sld hx hb hX hbl hbA hS (by rw [hL6]; unfold vp_in; decide) dL_law_1531 ?_
  refine lv_aload_n hx hb dL_law_1532 rfl (lv_at hl 3 rfl) ?_
  refine lv_iload_n hx hb dL_law_1533 rfl (lv_at hl 0 rfl) ?_
  refine lv_iconst (v := 2) hx hb dL_law_1534 (by decide) ?_
  refine lv_iadd hx hb dL_law_1535 ?_
  refine lv_topi (fun y_2 ey_2 => ?_)
  obtain rfl : y_2 = 2 := ey_2.trans (by decide)
  refine va_sld hx hb hX hbl hbA hS (by rw [hL6]; unfold vp_in; decide) dL_law_1536 ?_
  refine lv_aload_n hx hb dL_law_1537 rfl (lv_at hl 3 rfl) ?_
  refine lv_iload_n hx hb dL_law_1538 rfl (lv_at hl 0 rfl) ?_
  refine lv_iconst (v := 3) hx hb dL_law_1539 (by decide) ?_
  refine lv_iadd hx hb dL_law_1540 ?_
  refine lv_topi (fun y_3 ey_3 => ?_)
  obtain rfl : y_3 = 3 := ey_3.trans (by decide)
  refine va_sld hx hb hX hbl hbA hS (by rw [hL6]; unfold vp_in; decide) dL_law_1541 ?_
  have hPc := hP.sub (ws' := [(hc_, .inr (11, [.ref (ad 0), .ref (ad 1), .ref (ad 2), .ref (ad 3), .ref (ad 4), .ref (ad 5), .ref (ad 6), .ref (ad 7), .ref (ad 8), .int 0, .int 0, .int 0, .int 0])), (ad 7, .inr (1, [.ref (ak 0), .int 0, .int 0, .int 0]))]) [0, 1] rfl
  have hKc := hK.sub (tys' := []) [] rfl
  have hDc := hD.sub (ws' := [(hc_, .inr (11, [.ref (ad 0), .ref (ad 1), .ref (ad 2), .ref (ad 3), .ref (ad 4), .ref (ad 5), .ref (ad 6), .ref (ad 7), .ref (ad 8), .int 0, .int 0, .int 0, .int 0])), (ad 7, .inr (1, [.ref (ak 0), .int 0, .int 0, .int 0]))]) [0, 1] (by decide) rfl
  have hFc := va_free (wc := [(hc_, .inr (11, [.ref (ad 0), .ref (ad 1), .ref (ad 2), .ref (ad 3), .ref (ad 4), .ref (ad 5), .ref (ad 6), .ref (ad 7), .ref (ad 8), .int 0, .int 0, .int 0, .int 0])), (ad 7, .inr (1, [.ref (ak 0), .int 0, .int 0, .int 0]))]) hD hS hA [0, 1] rfl
  refine va_calli (va_runV (As := [.int (xs (1 : Int32).toNatClampNeg), .int (xs (2 : Int32).toNatClampNeg), .int (xs (3 : Int32).toNatClampNeg)]) (rest := []) ⟨hx, hb, hml, hown, hts⟩ (rt_X11_days l dC dI H.size hc_ ad ak (xs (1 : Int32).toNatClampNeg) (xs (2 : Int32).toNatClampNeg) (xs (3 : Int32).toNatClampNeg)) (cwV 3 hts gL_law_X11_days rfl rfl rfl (by decide +kernel) ⟨Nat.le_of_ble_eq_true rfl, Nat.le_of_ble_eq_true rfl⟩) ⟨fun a U g mk q => by obtain ⟨q0, q1, qP, qK, qD, qe0⟩ := q; exact ⟨q0, q1, qP, va_K.moved (u := U) (U := U.calling g mk a) (Vm.Alike.refl U.vm) qK, qD, rt_T.same qe0⟩, va_recv hKc hPc (ci := 11) (q0 := 0) rfl rfl, fun U hU hW => ⟨rfl, by rw [hU], by rw [hU]; exact hPc, va_K.moved hW.alike hKc, hDc.weaken (fun _ _ _ _ => trivial), rt_T.give hT hS hFc hU hW.alike⟩⟩ rfl rfl hl.1 rfl (lv_room (Nat.le_of_ble_eq_true rfl)) dL_law_1542 ⟨by decide +kernel, by decide +kernel⟩) hS (fun q _ h => hFc q h) hFc (fun r_4 u t H1 locs ht hvm hr_4 hB hz1 hk1 hS => ?_)
  obtain ⟨⟩ := u
  have hP1 : va_P (dC, dI) vwCl [] H1 := fun k q h => by simp at h
  have hD1 : va_D (va_A [(hc_, .inr (11, [.ref (ad 0), .ref (ad 1), .ref (ad 2), .ref (ad 3), .ref (ad 4), .ref (ad 5), .ref (ad 6), .ref (ad 7), .ref (ad 8), .int 0, .int 0, .int 0, .int 0])), (ad 7, .inr (1, [.ref (ak 0), .int 0, .int 0, .int 0]))] H.size) [] := ⟨fun i j p q h => by simp at h, fun k q h => by simp at h⟩
  obtain ⟨hP, hD⟩ := va_join (wr := [(hm_, .inr (12, [.int 0, .int 0, .ref (am 2), .ref (am 3), .ref (am 4), .int 0, .ref (am 6), .ref (am 7), .ref (am 8), .int 0, .ref (am 10), .ref (am 11), .ref (am 12), .ref (am 13), .ref (am 14), .ref (am 15), .int 0, .ref (am 17), .ref (am 18), .ref (am 19), .ref (am 20), .int 0, .ref (am 22), .int 0, .ref (am 24), .ref (am 25), .ref (am 26), .ref (am 27), .ref (am 28), .ref (am 29), .int 0, .ref (am 31), .ref (am 32), .ref (am 33), .int 0, .ref (am 35), .int 0, .ref (am 37), .ref (am 38), .ref (am 39), .ref (am 40), .ref (am 41), .ref (am 42), .ref (am 43), .int 0, .ref (am 45), .ref (am 46), .ref (am 47), .int 0, .ref (am 49), .int 0, .ref (am 51), .int 0, .ref (am 53), .ref (am 54), .int 1, .int 0, .ref (am 57), .long 0, .ref (am 59), .ref (am 60), .long 0, .int 0, .int 0, .int 0, .int 0, .int 0, .int 0, .ref (am 68), .int 0, .int 0, .ref (am 71), .ref (am 72), .ref (am 73), .ref (am 74), .ref (am 75), .ref (am 76), .ref (am 77), .ref (am 78)])), (am 73, .inl (cs 73, 5, .inl (fun _ => (0 : Int32)))), (am 74, .inl (cs 74, 5, .inl (fun _ => (0 : Int32))))]) (w1 := []) hP hD [0, 1] [2, 3, 4] rfl rfl (by decide) (by decide) hk1 hFc hP1 hD1
  generalize H1 = H at hP hS ⊢
  have hP : va_P (dC, dI) vwCl [(hm_, .inr (12, [.int 0, .int 0, .ref (am 2), .ref (am 3), .ref (am 4), .int 0, .ref (am 6), .ref (am 7), .ref (am 8), .int 0, .ref (am 10), .ref (am 11), .ref (am 12), .ref (am 13), .ref (am 14), .ref (am 15), .int 0, .ref (am 17), .ref (am 18), .ref (am 19), .ref (am 20), .int 0, .ref (am 22), .int 0, .ref (am 24), .ref (am 25), .ref (am 26), .ref (am 27), .ref (am 28), .ref (am 29), .int 0, .ref (am 31), .ref (am 32), .ref (am 33), .int 0, .ref (am 35), .int 0, .ref (am 37), .ref (am 38), .ref (am 39), .ref (am 40), .ref (am 41), .ref (am 42), .ref (am 43), .int 0, .ref (am 45), .ref (am 46), .ref (am 47), .int 0, .ref (am 49), .int 0, .ref (am 51), .int 0, .ref (am 53), .ref (am 54), .int 1, .int 0, .ref (am 57), .long 0, .ref (am 59), .ref (am 60), .long 0, .int 0, .int 0, .int 0, .int 0, .int 0, .int 0, .ref (am 68), .int 0, .int 0, .ref (am 71), .ref (am 72), .ref (am 73), .ref (am 74), .ref (am 75), .ref (am 76), .ref (am 77), .ref (am 78)])), (am 73, .inl (cs 73, 5, .inl (fun _ => (0 : Int32)))), (am 74, .inl (cs 74, 5, .inl (fun _ => (0 : Int32))))] H := hP
  have hD : va_D A [(hm_, .inr (12, [.int 0, .int 0, .ref (am 2), .ref (am 3), .ref (am 4), .int 0, .ref (am 6), .ref (am 7), .ref (am 8), .int 0, .ref (am 10), .ref (am 11), .ref (am 12), .ref (am 13), .ref (am 14), .ref (am 15), .int 0, .ref (am 17), .ref (am 18), .ref (am 19), .ref (am 20), .int 0, .ref (am 22), .int 0, .ref (am 24), .ref (am 25), .ref (am 26), .ref (am 27), .ref (am 28), .ref (am 29), .int 0, .ref (am 31), .ref (am 32), .ref (am 33), .int 0, .ref (am 35), .int 0, .ref (am 37), .ref (am 38), .ref (am 39), .ref (am 40), .ref (am 41), .ref (am 42), .ref (am 43), .int 0, .ref (am 45), .ref (am 46), .ref (am 47), .int 0, .ref (am 49), .int 0, .ref (am 51), .int 0, .ref (am 53), .ref (am 54), .int 1, .int 0, .ref (am 57), .long 0, .ref (am 59), .ref (am 60), .long 0, .int 0, .int 0, .int 0, .int 0, .int 0, .int 0, .ref (am 68), .int 0, .int 0, .ref (am 71), .ref (am 72), .ref (am 73), .ref (am 74), .ref (am 75), .ref (am 76), .ref (am 77), .ref (am 78)])), (am 73, .inl (cs 73, 5, .inl (fun _ => (0 : Int32)))), (am 74, .inl (cs 74, 5, .inl (fun _ => (0 : Int32))))] := hD
  try dsimp only at hr_4
  refine lv_aload_n hx hb dL_law_1545 rfl (lv_at hl 1 rfl) ?_
  refine lv_aload_n hx hb dL_law_1546 rfl (lv_at hl 3 rfl) ?_
  refine lv_iload_n hx hb dL_law_1547 rfl (lv_at hl 0 rfl) ?_
  refine lv_iconst (v := 1) hx hb dL_law_1548 (by decide) ?_
  refine lv_iadd hx hb dL_law_1549 ?_
  refine lv_topi (fun y_5 ey_5 => ?_)
  obtain rfl : y_5 = 1 := ey_5.trans (by decide)
  refine va_sld hx hb hX hbl hbA hS (by rw [hL6]; unfold vp_in; decide) dL_law_1550 ?_
  refine lv_aload_n hx hb dL_law_1551 rfl (lv_at hl 3 rfl) ?_
  refine lv_iload_n hx hb dL_law_1552 rfl (lv_at hl 0 rfl) ?_
  refine lv_iconst (v := 2) hx hb dL_law_1553 (by decide) ?_
  refine lv_iadd hx hb dL_law_1554 ?_
  refine lv_topi (fun y_6 ey_6 => ?_)
  obtain rfl : y_6 = 2 := ey_6.trans (by decide)
  refine va_sld hx hb hX hbl hbA hS (by rw [hL6]; unfold vp_in; decide) dL_law_1555 ?_
  refine lv_aload_n hx hb dL_law_1556 rfl (lv_at hl 3 rfl) ?_
  refine lv_iload_n hx hb dL_law_1557 rfl (lv_at hl 0 rfl) ?_
  refine lv_iconst (v := 3) hx hb dL_law_1558 (by decide) ?_
  refine lv_iadd hx hb dL_law_1559 ?_
  refine lv_topi (fun y_7 ey_7 => ?_)
  obtain rfl : y_7 = 3 := ey_7.trans (by decide)
  refine va_sld hx hb hX hbl hbA hS (by rw [hL6]; unfold vp_in; decide) dL_law_1560 ?_
  have hPc := hP.sub (ws' := [(hm_, .inr (12, [.int 0, .int 0, .ref (am 2), .ref (am 3), .ref (am 4), .int 0, .ref (am 6), .ref (am 7), .ref (am 8), .int 0, .ref (am 10), .ref (am 11), .ref (am 12), .ref (am 13), .ref (am 14), .ref (am 15), .int 0, .ref (am 17), .ref (am 18), .ref (am 19), .ref (am 20), .int 0, .ref (am 22), .int 0, .ref (am 24), .ref (am 25), .ref (am 26), .ref (am 27), .ref (am 28), .ref (am 29), .int 0, .ref (am 31), .ref (am 32), .ref (am 33), .int 0, .ref (am 35), .int 0, .ref (am 37), .ref (am 38), .ref (am 39), .ref (am 40), .ref (am 41), .ref (am 42), .ref (am 43), .int 0, .ref (am 45), .ref (am 46), .ref (am 47), .int 0, .ref (am 49), .int 0, .ref (am 51), .int 0, .ref (am 53), .ref (am 54), .int 1, .int 0, .ref (am 57), .long 0, .ref (am 59), .ref (am 60), .long 0, .int 0, .int 0, .int 0, .int 0, .int 0, .int 0, .ref (am 68), .int 0, .int 0, .ref (am 71), .ref (am 72), .ref (am 73), .ref (am 74), .ref (am 75), .ref (am 76), .ref (am 77), .ref (am 78)])), (am 73, .inl (cs 73, 5, .inl (fun _ => (0 : Int32)))), (am 74, .inl (cs 74, 5, .inl (fun _ => (0 : Int32))))]) [0, 1, 2] rfl
  have hKc := hK.sub (tys' := [(cs 73, .int), (cs 74, .int)]) [0, 1] rfl
  have hDc := hD.sub (ws' := [(hm_, .inr (12, [.int 0, .int 0, .ref (am 2), .ref (am 3), .ref (am 4), .int 0, .ref (am 6), .ref (am 7), .ref (am 8), .int 0, .ref (am 10), .ref (am 11), .ref (am 12), .ref (am 13), .ref (am 14), .ref (am 15), .int 0, .ref (am 17), .ref (am 18), .ref (am 19), .ref (am 20), .int 0, .ref (am 22), .int 0, .ref (am 24), .ref (am 25), .ref (am 26), .ref (am 27), .ref (am 28), .ref (am 29), .int 0, .ref (am 31), .ref (am 32), .ref (am 33), .int 0, .ref (am 35), .int 0, .ref (am 37), .ref (am 38), .ref (am 39), .ref (am 40), .ref (am 41), .ref (am 42), .ref (am 43), .int 0, .ref (am 45), .ref (am 46), .ref (am 47), .int 0, .ref (am 49), .int 0, .ref (am 51), .int 0, .ref (am 53), .ref (am 54), .int 1, .int 0, .ref (am 57), .long 0, .ref (am 59), .ref (am 60), .long 0, .int 0, .int 0, .int 0, .int 0, .int 0, .int 0, .ref (am 68), .int 0, .int 0, .ref (am 71), .ref (am 72), .ref (am 73), .ref (am 74), .ref (am 75), .ref (am 76), .ref (am 77), .ref (am 78)])), (am 73, .inl (cs 73, 5, .inl (fun _ => (0 : Int32)))), (am 74, .inl (cs 74, 5, .inl (fun _ => (0 : Int32))))]) [0, 1, 2] (by decide) rfl
  have hFc := va_free (wc := [(hm_, .inr (12, [.int 0, .int 0, .ref (am 2), .ref (am 3), .ref (am 4), .int 0, .ref (am 6), .ref (am 7), .ref (am 8), .int 0, .ref (am 10), .ref (am 11), .ref (am 12), .ref (am 13), .ref (am 14), .ref (am 15), .int 0, .ref (am 17), .ref (am 18), .ref (am 19), .ref (am 20), .int 0, .ref (am 22), .int 0, .ref (am 24), .ref (am 25), .ref (am 26), .ref (am 27), .ref (am 28), .ref (am 29), .int 0, .ref (am 31), .ref (am 32), .ref (am 33), .int 0, .ref (am 35), .int 0, .ref (am 37), .ref (am 38), .ref (am 39), .ref (am 40), .ref (am 41), .ref (am 42), .ref (am 43), .int 0, .ref (am 45), .ref (am 46), .ref (am 47), .int 0, .ref (am 49), .int 0, .ref (am 51), .int 0, .ref (am 53), .ref (am 54), .int 1, .int 0, .ref (am 57), .long 0, .ref (am 59), .ref (am 60), .long 0, .int 0, .int 0, .int 0, .int 0, .int 0, .int 0, .ref (am 68), .int 0, .int 0, .ref (am 71), .ref (am 72), .ref (am 73), .ref (am 74), .ref (am 75), .ref (am 76), .ref (am 77), .ref (am 78)])), (am 73, .inl (cs 73, 5, .inl (fun _ => (0 : Int32)))), (am 74, .inl (cs 74, 5, .inl (fun _ => (0 : Int32))))]) hD hS hA [0, 1, 2] rfl
  refine va_calli (va_runV (As := [.int (xs (1 : Int32).toNatClampNeg), .int (xs (2 : Int32).toNatClampNeg), .int (xs (3 : Int32).toNatClampNeg)]) (rest := [.int r_4]) ⟨hx, hb, hml, hown, hts⟩ (rt_X12_days l dC dI H.size hm_ am cs (fun _ => (0 : Int32)) (fun _ => (0 : Int32)) (xs (1 : Int32).toNatClampNeg) (xs (2 : Int32).toNatClampNeg) (xs (3 : Int32).toNatClampNeg)) (cwV 3 hts gL_law_X12_days rfl rfl rfl (by decide +kernel) ⟨Nat.le_of_ble_eq_true rfl, Nat.le_of_ble_eq_true rfl⟩) ⟨fun a U g mk q => by obtain ⟨q0, q1, qP, qK, qD⟩ := q; exact ⟨q0, q1, qP, va_K.moved (u := U) (U := U.calling g mk a) (Vm.Alike.refl U.vm) qK, qD⟩, va_recv hKc hPc (ci := 12) (q0 := 0) rfl rfl, fun U hU hW => ⟨rfl, by rw [hU], by rw [hU]; exact hPc, va_K.moved hW.alike hKc, hDc.weaken (fun _ _ _ _ => trivial)⟩⟩ rfl rfl hl.1 rfl (lv_room (Nat.le_of_ble_eq_true rfl)) dL_law_1561 ⟨by decide +kernel, by decide +kernel⟩) hS (fun q _ h => hFc q h) hFc (fun r_8 u t H1 locs ht hvm hr_8 hB hz1 hk1 hS => ?_)
  obtain ⟨⟩ := u
  have hP1 : va_P (dC, dI) vwCl [] H1 := fun k q h => by simp at h
  have hD1 : va_D (va_A [(hm_, .inr (12, [.int 0, .int 0, .ref (am 2), .ref (am 3), .ref (am 4), .int 0, .ref (am 6), .ref (am 7), .ref (am 8), .int 0, .ref (am 10), .ref (am 11), .ref (am 12), .ref (am 13), .ref (am 14), .ref (am 15), .int 0, .ref (am 17), .ref (am 18), .ref (am 19), .ref (am 20), .int 0, .ref (am 22), .int 0, .ref (am 24), .ref (am 25), .ref (am 26), .ref (am 27), .ref (am 28), .ref (am 29), .int 0, .ref (am 31), .ref (am 32), .ref (am 33), .int 0, .ref (am 35), .int 0, .ref (am 37), .ref (am 38), .ref (am 39), .ref (am 40), .ref (am 41), .ref (am 42), .ref (am 43), .int 0, .ref (am 45), .ref (am 46), .ref (am 47), .int 0, .ref (am 49), .int 0, .ref (am 51), .int 0, .ref (am 53), .ref (am 54), .int 1, .int 0, .ref (am 57), .long 0, .ref (am 59), .ref (am 60), .long 0, .int 0, .int 0, .int 0, .int 0, .int 0, .int 0, .ref (am 68), .int 0, .int 0, .ref (am 71), .ref (am 72), .ref (am 73), .ref (am 74), .ref (am 75), .ref (am 76), .ref (am 77), .ref (am 78)])), (am 73, .inl (cs 73, 5, .inl (fun _ => (0 : Int32)))), (am 74, .inl (cs 74, 5, .inl (fun _ => (0 : Int32))))] H.size) [] := ⟨fun i j p q h => by simp at h, fun k q h => by simp at h⟩
  obtain ⟨hP, hD⟩ := va_join (wr := []) (w1 := []) hP hD [0, 1, 2] [] rfl rfl (by decide) (by decide) hk1 hFc hP1 hD1
  generalize H1 = H at hP hS ⊢
  have hP : va_P (dC, dI) vwCl [] H := hP
  have hD : va_D A [] := hD
  try dsimp only at hr_8
  have hq : (r_4 : Int32) = r_8 := by
    rcases hr_4 with ⟨a0, e0⟩ | ⟨a0, e0⟩ | ⟨a0, e0⟩ <;> rcases hr_8 with ⟨a1, e1⟩ | ⟨a1, e1⟩ | ⟨a1, e1⟩ <;> first | (rw [e0, e1]; done) | (exfalso; (try simp only [fa_lt, fa_le, fa_eq, fa_lt64, fa_le64, fa_eq64, Int32.reduceToInt, Int64.reduceToInt, zi_ite] at a0); (try simp only [fa_lt, fa_le, fa_eq, fa_lt64, fa_le64, fa_eq64, Int32.reduceToInt, Int64.reduceToInt, zi_ite] at a1); omega)
  refine lv_icmp_eq (tgt := 1837) hx hb dL_law_1564 (by decide) (fun _ => ?_) (fun c9 => absurd hq c9)
  exact law_fin C0 hL6 hS (by decide +kernel) (by decide +kernel) ls (lv_sub hl [3, 2, 1, 0] rfl)
set_option maxHeartbeats 1000000 in
set_option maxRecDepth 100000 in
theorem law_b32 {p : Program} {l : Launch} {e : Env} {s : State} {m : MethodId} {below : List Frame} {meth : Method} {c : Code} {dC : Nat → ClassId} {dI : Nat → Nat → Nat} {b L : Nat} {xs : Nat → Int32} (C0 : lw_At p s m meth c b L xs) (hL6 : L = 6) {hc_ hm_ : Nat} {ad aw ar ae ac ao at_ ak am : Nat → Nat} {H : Heap} {locs : List Loc} (hK : va_K (dC, dI) vwCl [] s) (hP : va_P (dC, dI) vwCl [(hc_, .inr (11, [.ref (ad 0), .ref (ad 1), .ref (ad 2), .ref (ad 3), .ref (ad 4), .ref (ad 5), .ref (ad 6), .ref (ad 7), .ref (ad 8), .int 0, .int 0, .int 0, .int 0])), (ad 0, .inr (10, [.ref (aw 0), .ref (aw 1), .int 0, .int 0])), (ad 2, .inr (4, [.ref (ar 0), .int 0, .ref (ar 2), .ref (ar 3), .ref (ar 4), .ref (ar 5), .ref (ar 6), .ref (ar 7), .int 0, .ref (ar 9), .ref (ar 10), .ref (ar 11), .int 0])), (ad 3, .inr (6, [.ref (ae 0), .int 0, .ref (ae 2), .long 0, .ref (ae 4), .ref (ae 5), .long 0])), (ad 4, .inr (2, [.ref (ac 0), .ref (ac 1), .ref (ac 2), .ref (ac 3), .ref (ac 4), .int 0])), (ad 5, .inr (3, [.ref (ao 0), .int 0, .ref (ao 2), .int 1, .int 0, .ref (ao 5), .ref (ao 6), .ref (ao 7)])), (ad 6, .inr (8, [.ref (at_ 0), .ref (at_ 1), .ref (at_ 2), .int 0])), (ad 7, .inr (1, [.ref (ak 0), .int 0, .int 0, .int 0])), (hm_, .inr (12, [.int 0, .int 0, .ref (am 2), .ref (am 3), .ref (am 4), .int 0, .ref (am 6), .ref (am 7), .ref (am 8), .int 0, .ref (am 10), .ref (am 11), .ref (am 12), .ref (am 13), .ref (am 14), .ref (am 15), .int 0, .ref (am 17), .ref (am 18), .ref (am 19), .ref (am 20), .int 0, .ref (am 22), .int 0, .ref (am 24), .ref (am 25), .ref (am 26), .ref (am 27), .ref (am 28), .ref (am 29), .int 0, .ref (am 31), .ref (am 32), .ref (am 33), .int 0, .ref (am 35), .int 0, .ref (am 37), .ref (am 38), .ref (am 39), .ref (am 40), .ref (am 41), .ref (am 42), .ref (am 43), .int 0, .ref (am 45), .ref (am 46), .ref (am 47), .int 0, .ref (am 49), .int 0, .ref (am 51), .int 0, .ref (am 53), .ref (am 54), .int 1, .int 0, .ref (am 57), .long 0, .ref (am 59), .ref (am 60), .long 0, .int 0, .int 0, .int 0, .int 0, .int 0, .int 0, .ref (am 68), .int 0, .int 0, .ref (am 71), .ref (am 72), .ref (am 73), .ref (am 74), .ref (am 75), .ref (am 76), .ref (am 77), .ref (am 78)]))] H) (hD : va_D (fun q : Nat => s.heap.size ≤ q) [(hc_, .inr (11, [.ref (ad 0), .ref (ad 1), .ref (ad 2), .ref (ad 3), .ref (ad 4), .ref (ad 5), .ref (ad 6), .ref (ad 7), .ref (ad 8), .int 0, .int 0, .int 0, .int 0])), (ad 0, .inr (10, [.ref (aw 0), .ref (aw 1), .int 0, .int 0])), (ad 2, .inr (4, [.ref (ar 0), .int 0, .ref (ar 2), .ref (ar 3), .ref (ar 4), .ref (ar 5), .ref (ar 6), .ref (ar 7), .int 0, .ref (ar 9), .ref (ar 10), .ref (ar 11), .int 0])), (ad 3, .inr (6, [.ref (ae 0), .int 0, .ref (ae 2), .long 0, .ref (ae 4), .ref (ae 5), .long 0])), (ad 4, .inr (2, [.ref (ac 0), .ref (ac 1), .ref (ac 2), .ref (ac 3), .ref (ac 4), .int 0])), (ad 5, .inr (3, [.ref (ao 0), .int 0, .ref (ao 2), .int 1, .int 0, .ref (ao 5), .ref (ao 6), .ref (ao 7)])), (ad 6, .inr (8, [.ref (at_ 0), .ref (at_ 1), .ref (at_ 2), .int 0])), (ad 7, .inr (1, [.ref (ak 0), .int 0, .int 0, .int 0])), (hm_, .inr (12, [.int 0, .int 0, .ref (am 2), .ref (am 3), .ref (am 4), .int 0, .ref (am 6), .ref (am 7), .ref (am 8), .int 0, .ref (am 10), .ref (am 11), .ref (am 12), .ref (am 13), .ref (am 14), .ref (am 15), .int 0, .ref (am 17), .ref (am 18), .ref (am 19), .ref (am 20), .int 0, .ref (am 22), .int 0, .ref (am 24), .ref (am 25), .ref (am 26), .ref (am 27), .ref (am 28), .ref (am 29), .int 0, .ref (am 31), .ref (am 32), .ref (am 33), .int 0, .ref (am 35), .int 0, .ref (am 37), .ref (am 38), .ref (am 39), .ref (am 40), .ref (am 41), .ref (am 42), .ref (am 43), .int 0, .ref (am 45), .ref (am 46), .ref (am 47), .int 0, .ref (am 49), .int 0, .ref (am 51), .int 0, .ref (am 53), .ref (am 54), .int 1, .int 0, .ref (am 57), .long 0, .ref (am 59), .ref (am 60), .long 0, .int 0, .int 0, .int 0, .int 0, .int 0, .int 0, .ref (am 68), .int 0, .int 0, .ref (am 71), .ref (am 72), .ref (am 73), .ref (am 74), .ref (am 75), .ref (am 76), .ref (am 77), .ref (am 78)]))]) (hS : va_S (fun q : Nat => s.heap.size ≤ q) s.heap H locs) (ls : Array Slot) (hl : lv_has ls 4 [(3, .int 0), (2, .ref hm_), (1, .ref hc_), (0, .ref b)]) : W p l e room_1 s m #[Value.ref b] below meth c H locs 124 5628 (lw_Z below #[Value.ref b] s) (F0 m 1569 ls []) := by
  obtain ⟨hx, hb, hr, hml, hown, hts, hX, hbl, hlocks, hgv⟩ := id C0
  have hown : s.vm.findClass RL = some m.cls := hown
  have hb : c.code = cL_law := hb
  generalize hAe : (fun q : Nat => s.heap.size ≤ q) = A at hD hS 
  have hA : ∀ q : Nat, s.heap.size ≤ q → A q := fun q h => by rw [← hAe]; exact h
  have hbA : ¬ A b := by rw [← hAe]; exact Nat.not_le.mpr hbl
  refine lv_aload_n hx hb dL_law_1569 rfl (lv_at hl 2 rfl) ?_
  refine lv_aload_n hx hb dL_law_1570 rfl (lv_at hl 3 rfl) ?_
  refine lv_iload_n hx hb dL_law_1571 rfl (lv_at hl 0 rfl) ?_
  refine lv_iconst (v := 1) hx hb dL_law_1572 (by decide) ?_
  refine lv_iadd hx hb dL_law_1573 ?_
  refine lv_topi (fun y_1 ey_1 => ?_)
  obtain rfl : y_1 = 1 := ey_1.trans (by decide)
  refine va_sld hx hb hX hbl hbA hS (by rw [hL6]; unfold vp_in; decide) dL_law_1574 ?_
  have hPc := hP.sub (ws' := [(hc_, .inr (11, [.ref (ad 0), .ref (ad 1), .ref (ad 2), .ref (ad 3), .ref (ad 4), .ref (ad 5), .ref (ad 6), .ref (ad 7), .ref (ad 8), .int 0, .int 0, .int 0, .int 0])), (ad 0, .inr (10, [.ref (aw 0), .ref (aw 1), .int 0, .int 0])), (ad 2, .inr (4, [.ref (ar 0), .int 0, .ref (ar 2), .ref (ar 3), .ref (ar 4), .ref (ar 5), .ref (ar 6), .ref (ar 7), .int 0, .ref (ar 9), .ref (ar 10), .ref (ar 11), .int 0])), (ad 3, .inr (6, [.ref (ae 0), .int 0, .ref (ae 2), .long 0, .ref (ae 4), .ref (ae 5), .long 0])), (ad 4, .inr (2, [.ref (ac 0), .ref (ac 1), .ref (ac 2), .ref (ac 3), .ref (ac 4), .int 0])), (ad 5, .inr (3, [.ref (ao 0), .int 0, .ref (ao 2), .int 1, .int 0, .ref (ao 5), .ref (ao 6), .ref (ao 7)])), (ad 6, .inr (8, [.ref (at_ 0), .ref (at_ 1), .ref (at_ 2), .int 0])), (ad 7, .inr (1, [.ref (ak 0), .int 0, .int 0, .int 0]))]) [0, 1, 2, 3, 4, 5, 6, 7] rfl
  have hKc := hK.sub (tys' := []) [] rfl
  refine vp_callSi (va_Run.run (va_runV (As := [.int (xs (1 : Int32).toNatClampNeg)]) (rest := []) ⟨hx, hb, hml, hown, hts⟩ (rt_X11_count l dC dI hc_ ad aw ar ae ac ao at_ ak (xs (1 : Int32).toNatClampNeg)) (cwV 1 hts gL_law_X11_count rfl rfl rfl (by decide +kernel) ⟨Nat.le_of_ble_eq_true rfl, Nat.le_of_ble_eq_true rfl⟩) ⟨fun a U g mk q => by obtain ⟨q0, qP, qK⟩ := q; exact ⟨q0, qP, va_K.moved (u := U) (U := U.calling g mk a) (Vm.Alike.refl U.vm) qK⟩, va_recv hKc hPc (ci := 11) (q0 := 0) rfl rfl, fun U hU hW => ⟨rfl, by rw [hU]; exact hPc, va_K.moved hW.alike hKc⟩⟩ rfl rfl hl.1 rfl (lv_room (Nat.le_of_ble_eq_true rfl)) dL_law_1575 ⟨by decide +kernel, by decide +kernel⟩)) (fun r_2 hr_2 => ?_)
  refine lv_aload_n hx hb dL_law_1578 rfl (lv_at hl 1 rfl) ?_
  refine lv_aload_n hx hb dL_law_1579 rfl (lv_at hl 3 rfl) ?_
  refine lv_iload_n hx hb dL_law_1580 rfl (lv_at hl 0 rfl) ?_
  refine lv_iconst (v := 1) hx hb dL_law_1581 (by decide) ?_
  refine lv_iadd hx hb dL_law_1582 ?_
  refine lv_topi (fun y_3 ey_3 => ?_)
  obtain rfl : y_3 = 1 := ey_3.trans (by decide)
  refine va_sld hx hb hX hbl hbA hS (by rw [hL6]; unfold vp_in; decide) dL_law_1583 ?_
  have hPc := hP.sub (ws' := [(hm_, .inr (12, [.int 0, .int 0, .ref (am 2), .ref (am 3), .ref (am 4), .int 0, .ref (am 6), .ref (am 7), .ref (am 8), .int 0, .ref (am 10), .ref (am 11), .ref (am 12), .ref (am 13), .ref (am 14), .ref (am 15), .int 0, .ref (am 17), .ref (am 18), .ref (am 19), .ref (am 20), .int 0, .ref (am 22), .int 0, .ref (am 24), .ref (am 25), .ref (am 26), .ref (am 27), .ref (am 28), .ref (am 29), .int 0, .ref (am 31), .ref (am 32), .ref (am 33), .int 0, .ref (am 35), .int 0, .ref (am 37), .ref (am 38), .ref (am 39), .ref (am 40), .ref (am 41), .ref (am 42), .ref (am 43), .int 0, .ref (am 45), .ref (am 46), .ref (am 47), .int 0, .ref (am 49), .int 0, .ref (am 51), .int 0, .ref (am 53), .ref (am 54), .int 1, .int 0, .ref (am 57), .long 0, .ref (am 59), .ref (am 60), .long 0, .int 0, .int 0, .int 0, .int 0, .int 0, .int 0, .ref (am 68), .int 0, .int 0, .ref (am 71), .ref (am 72), .ref (am 73), .ref (am 74), .ref (am 75), .ref (am 76), .ref (am 77), .ref (am 78)]))]) [8] rfl
  have hKc := hK.sub (tys' := []) [] rfl
  refine vp_callSi (va_Run.run (va_runV (As := [.int (xs (1 : Int32).toNatClampNeg)]) (rest := [.int r_2]) ⟨hx, hb, hml, hown, hts⟩ (rt_X12_count l dC dI hm_ am (xs (1 : Int32).toNatClampNeg)) (cwV 1 hts gL_law_X12_count rfl rfl rfl (by decide +kernel) ⟨Nat.le_of_ble_eq_true rfl, Nat.le_of_ble_eq_true rfl⟩) ⟨fun a U g mk q => by obtain ⟨q0, qP, qK⟩ := q; exact ⟨q0, qP, va_K.moved (u := U) (U := U.calling g mk a) (Vm.Alike.refl U.vm) qK⟩, va_recv hKc hPc (ci := 12) (q0 := 0) rfl rfl, fun U hU hW => ⟨rfl, by rw [hU]; exact hPc, va_K.moved hW.alike hKc⟩⟩ rfl rfl hl.1 rfl (lv_room (Nat.le_of_ble_eq_true rfl)) dL_law_1584 ⟨by decide +kernel, by decide +kernel⟩)) (fun r_4 hr_4 => ?_)
  have hq : (r_2 : Int32) = r_4 := by
    rcases hr_2 with ⟨a0, e0⟩ | ⟨a0, e0⟩ | ⟨a0, e0⟩ <;> rcases hr_4 with ⟨a1, e1⟩ | ⟨a1, e1⟩ | ⟨a1, e1⟩ <;> first | (rw [e0, e1]; done) | (exfalso; (try simp only [fa_lt, fa_le, fa_eq, fa_lt64, fa_le64, fa_eq64, Int32.reduceToInt, Int64.reduceToInt, zi_ite] at a0); (try simp only [fa_lt, fa_le, fa_eq, fa_lt64, fa_le64, fa_eq64, Int32.reduceToInt, Int64.reduceToInt, zi_ite] at a1); omega)
  refine lv_icmp_eq (tgt := 1837) hx hb dL_law_1587 (by decide) (fun _ => ?_) (fun c9 => absurd hq c9)
  exact law_fin C0 hL6 hS (by decide +kernel) (by decide +kernel) ls (lv_sub hl [3, 2, 1, 0] rfl)
set_option maxHeartbeats 1000000 in
set_option maxRecDepth 100000 in
theorem law_b33 {p : Program} {l : Launch} {e : Env} {s : State} {m : MethodId} {below : List Frame} {meth : Method} {c : Code} {dC : Nat → ClassId} {dI : Nat → Nat → Nat} {b L : Nat} {xs : Nat → Int32} (C0 : lw_At p s m meth c b L xs) (hL6 : L = 6) {hc_ hm_ : Nat} {ad sa ai am : Nat → Nat} {cd ci cs : Nat → ClassId} {fs : Nat → Int32} (hsrt : ∀ j : Nat, j < 4 → fs j = -1) {H : Heap} {locs : List Loc} (hK : va_K (dC, dI) vwCl [(cd 8, .object RX7), (ci 0, .int), (ci 1, .int), (ci 2, .int), (ci 3, .int), (cs 75, .int), (cs 76, .int), (cs 77, .int)] s) (hP : va_P (dC, dI) vwCl [(hc_, .inr (11, [.ref (ad 0), .ref (ad 1), .ref (ad 2), .ref (ad 3), .ref (ad 4), .ref (ad 5), .ref (ad 6), .ref (ad 7), .ref (ad 8), .int 0, .int 0, .int 0, .int 0])), (ad 8, .inl (cd 8, 4, .inr (.inr (.inr (.inr (va_up (va_up (va_up (va_up (fun _ => none) 0 (some (sa 0))) 1 (some (sa 1))) 2 (some (sa 2))) 3 (some (sa 3)))))))), (sa 0, .inr (7, [.ref (ai 0), .int (-1), .int 0])), (ai 0, .inl (ci 0, 40, .inl (fun _ => (0 : Int32)))), (sa 1, .inr (7, [.ref (ai 1), .int (-1), .int 0])), (ai 1, .inl (ci 1, 40, .inl (fun _ => (0 : Int32)))), (sa 2, .inr (7, [.ref (ai 2), .int (-1), .int 0])), (ai 2, .inl (ci 2, 40, .inl (fun _ => (0 : Int32)))), (sa 3, .inr (7, [.ref (ai 3), .int (-1), .int 0])), (ai 3, .inl (ci 3, 40, .inl (fun _ => (0 : Int32)))), (hm_, .inr (12, [.int 0, .int 0, .ref (am 2), .ref (am 3), .ref (am 4), .int 0, .ref (am 6), .ref (am 7), .ref (am 8), .int 0, .ref (am 10), .ref (am 11), .ref (am 12), .ref (am 13), .ref (am 14), .ref (am 15), .int 0, .ref (am 17), .ref (am 18), .ref (am 19), .ref (am 20), .int 0, .ref (am 22), .int 0, .ref (am 24), .ref (am 25), .ref (am 26), .ref (am 27), .ref (am 28), .ref (am 29), .int 0, .ref (am 31), .ref (am 32), .ref (am 33), .int 0, .ref (am 35), .int 0, .ref (am 37), .ref (am 38), .ref (am 39), .ref (am 40), .ref (am 41), .ref (am 42), .ref (am 43), .int 0, .ref (am 45), .ref (am 46), .ref (am 47), .int 0, .ref (am 49), .int 0, .ref (am 51), .int 0, .ref (am 53), .ref (am 54), .int 1, .int 0, .ref (am 57), .long 0, .ref (am 59), .ref (am 60), .long 0, .int 0, .int 0, .int 0, .int 0, .int 0, .int 0, .ref (am 68), .int 0, .int 0, .ref (am 71), .ref (am 72), .ref (am 73), .ref (am 74), .ref (am 75), .ref (am 76), .ref (am 77), .ref (am 78)])), (am 75, .inl (cs 75, 4, .inl fs)), (am 76, .inl (cs 76, 4, .inl (fun _ => (0 : Int32)))), (am 77, .inl (cs 77, 160, .inl (fun _ => (0 : Int32))))] H) (hD : va_D (fun q : Nat => s.heap.size ≤ q) [(hc_, .inr (11, [.ref (ad 0), .ref (ad 1), .ref (ad 2), .ref (ad 3), .ref (ad 4), .ref (ad 5), .ref (ad 6), .ref (ad 7), .ref (ad 8), .int 0, .int 0, .int 0, .int 0])), (ad 8, .inl (cd 8, 4, .inr (.inr (.inr (.inr (va_up (va_up (va_up (va_up (fun _ => none) 0 (some (sa 0))) 1 (some (sa 1))) 2 (some (sa 2))) 3 (some (sa 3)))))))), (sa 0, .inr (7, [.ref (ai 0), .int (-1), .int 0])), (ai 0, .inl (ci 0, 40, .inl (fun _ => (0 : Int32)))), (sa 1, .inr (7, [.ref (ai 1), .int (-1), .int 0])), (ai 1, .inl (ci 1, 40, .inl (fun _ => (0 : Int32)))), (sa 2, .inr (7, [.ref (ai 2), .int (-1), .int 0])), (ai 2, .inl (ci 2, 40, .inl (fun _ => (0 : Int32)))), (sa 3, .inr (7, [.ref (ai 3), .int (-1), .int 0])), (ai 3, .inl (ci 3, 40, .inl (fun _ => (0 : Int32)))), (hm_, .inr (12, [.int 0, .int 0, .ref (am 2), .ref (am 3), .ref (am 4), .int 0, .ref (am 6), .ref (am 7), .ref (am 8), .int 0, .ref (am 10), .ref (am 11), .ref (am 12), .ref (am 13), .ref (am 14), .ref (am 15), .int 0, .ref (am 17), .ref (am 18), .ref (am 19), .ref (am 20), .int 0, .ref (am 22), .int 0, .ref (am 24), .ref (am 25), .ref (am 26), .ref (am 27), .ref (am 28), .ref (am 29), .int 0, .ref (am 31), .ref (am 32), .ref (am 33), .int 0, .ref (am 35), .int 0, .ref (am 37), .ref (am 38), .ref (am 39), .ref (am 40), .ref (am 41), .ref (am 42), .ref (am 43), .int 0, .ref (am 45), .ref (am 46), .ref (am 47), .int 0, .ref (am 49), .int 0, .ref (am 51), .int 0, .ref (am 53), .ref (am 54), .int 1, .int 0, .ref (am 57), .long 0, .ref (am 59), .ref (am 60), .long 0, .int 0, .int 0, .int 0, .int 0, .int 0, .int 0, .ref (am 68), .int 0, .int 0, .ref (am 71), .ref (am 72), .ref (am 73), .ref (am 74), .ref (am 75), .ref (am 76), .ref (am 77), .ref (am 78)])), (am 75, .inl (cs 75, 4, .inl fs)), (am 76, .inl (cs 76, 4, .inl (fun _ => (0 : Int32)))), (am 77, .inl (cs 77, 160, .inl (fun _ => (0 : Int32))))]) (hS : va_S (fun q : Nat => s.heap.size ≤ q) s.heap H locs) (ls : Array Slot) (hl : lv_has ls 4 [(3, .int 0), (2, .ref hm_), (1, .ref hc_), (0, .ref b)]) : W p l e room_1 s m #[Value.ref b] below meth c H locs 124 5628 (lw_Z below #[Value.ref b] s) (F0 m 1592 ls []) := by
  obtain ⟨hx, hb, hr, hml, hown, hts, hX, hbl, hlocks, hgv⟩ := id C0
  have hown : s.vm.findClass RL = some m.cls := hown
  have hb : c.code = cL_law := hb
  generalize hAe : (fun q : Nat => s.heap.size ≤ q) = A at hD hS 
  have hA : ∀ q : Nat, s.heap.size ≤ q → A q := fun q h => by rw [← hAe]; exact h
  have hbA : ¬ A b := by rw [← hAe]; exact Nat.not_le.mpr hbl
  refine lv_aload_n hx hb dL_law_1592 rfl (lv_at hl 2 rfl) ?_
  refine lv_aload_n hx hb dL_law_1593 rfl (lv_at hl 3 rfl) ?_
  refine lv_iload_n hx hb dL_law_1594 rfl (lv_at hl 0 rfl) ?_
  refine lv_iconst (v := 1) hx hb dL_law_1595 (by decide) ?_
  refine lv_iadd hx hb dL_law_1596 ?_
  refine lv_topi (fun y_1 ey_1 => ?_)
  obtain rfl : y_1 = 1 := ey_1.trans (by decide)
  refine va_sld hx hb hX hbl hbA hS (by rw [hL6]; unfold vp_in; decide) dL_law_1597 ?_
  refine lv_aload_n hx hb dL_law_1598 rfl (lv_at hl 3 rfl) ?_
  refine lv_iload_n hx hb dL_law_1599 rfl (lv_at hl 0 rfl) ?_
  refine lv_iconst (v := 2) hx hb dL_law_1600 (by decide) ?_
  refine lv_iadd hx hb dL_law_1601 ?_
  refine lv_topi (fun y_2 ey_2 => ?_)
  obtain rfl : y_2 = 2 := ey_2.trans (by decide)
  refine va_sld hx hb hX hbl hbA hS (by rw [hL6]; unfold vp_in; decide) dL_law_1602 ?_
  refine lv_aload_n hx hb dL_law_1603 rfl (lv_at hl 3 rfl) ?_
  refine lv_iload_n hx hb dL_law_1604 rfl (lv_at hl 0 rfl) ?_
  refine lv_iconst (v := 3) hx hb dL_law_1605 (by decide) ?_
  refine lv_iadd hx hb dL_law_1606 ?_
  refine lv_topi (fun y_3 ey_3 => ?_)
  obtain rfl : y_3 = 3 := ey_3.trans (by decide)
  refine va_sld hx hb hX hbl hbA hS (by rw [hL6]; unfold vp_in; decide) dL_law_1607 ?_
  rcases (show ((xs (1 : Int32).toNatClampNeg).toInt < 0 ∨ 4 ≤ (xs (1 : Int32).toNatClampNeg).toInt) ∨ (xs (1 : Int32).toNatClampNeg) = 0 ∨ (xs (1 : Int32).toNatClampNeg) = 1 ∨ (xs (1 : Int32).toNatClampNeg) = 2 ∨ (xs (1 : Int32).toNatClampNeg) = 3 by simp only [fa_eq, Int32.reduceToInt]; omega) with c_4 | c_4 | c_4 | c_4 | c_4
  · have hPc := hP.sub (ws' := [(hc_, .inr (11, [.ref (ad 0), .ref (ad 1), .ref (ad 2), .ref (ad 3), .ref (ad 4), .ref (ad 5), .ref (ad 6), .ref (ad 7), .ref (ad 8), .int 0, .int 0, .int 0, .int 0])), (ad 8, .inl (cd 8, 4, .inr (.inr (.inr (.inr (va_up (va_up (va_up (va_up (fun _ => none) 0 (some (sa 0))) 1 (some (sa 1))) 2 (some (sa 2))) 3 (some (sa 3))))))))]) [0, 1] rfl
    have hKc := hK.sub (tys' := [(cd 8, .object RX7)]) [0] rfl
    refine vp_callSi (va_Run.run (va_runV (As := [.int (xs (1 : Int32).toNatClampNeg), .int (xs (2 : Int32).toNatClampNeg), .int (xs (3 : Int32).toNatClampNeg)]) (rest := []) ⟨hx, hb, hml, hown, hts⟩ (rt_X11_sheetO l dC dI hc_ ad (cd 8) (va_up (va_up (va_up (va_up (fun _ => none) 0 (some (sa 0))) 1 (some (sa 1))) 2 (some (sa 2))) 3 (some (sa 3))) (xs (1 : Int32).toNatClampNeg) (xs (2 : Int32).toNatClampNeg) (xs (3 : Int32).toNatClampNeg) c_4) (cwV 3 hts gL_law_X11_sheet rfl rfl rfl (by decide +kernel) ⟨Nat.le_of_ble_eq_true rfl, Nat.le_of_ble_eq_true rfl⟩) ⟨fun a U g mk q => by obtain ⟨q0, qP, qK⟩ := q; exact ⟨q0, qP, va_K.moved (u := U) (U := U.calling g mk a) (Vm.Alike.refl U.vm) qK⟩, va_recv hKc hPc (ci := 11) (q0 := 0) rfl rfl, fun U hU hW => ⟨rfl, by rw [hU]; exact hPc, va_K.moved hW.alike hKc⟩⟩ rfl rfl hl.1 rfl (lv_room (Nat.le_of_ble_eq_true rfl)) dL_law_1608 ⟨by decide +kernel, by decide +kernel⟩)) (fun r_5 hr_5 => ?_)
    obtain rfl := hr_5
    refine lv_aload_n hx hb dL_law_1611 rfl (lv_at hl 1 rfl) ?_
    refine lv_aload_n hx hb dL_law_1612 rfl (lv_at hl 3 rfl) ?_
    refine lv_iload_n hx hb dL_law_1613 rfl (lv_at hl 0 rfl) ?_
    refine lv_iconst (v := 1) hx hb dL_law_1614 (by decide) ?_
    refine lv_iadd hx hb dL_law_1615 ?_
    refine lv_topi (fun y_6 ey_6 => ?_)
    obtain rfl : y_6 = 1 := ey_6.trans (by decide)
    refine va_sld hx hb hX hbl hbA hS (by rw [hL6]; unfold vp_in; decide) dL_law_1616 ?_
    refine lv_aload_n hx hb dL_law_1617 rfl (lv_at hl 3 rfl) ?_
    refine lv_iload_n hx hb dL_law_1618 rfl (lv_at hl 0 rfl) ?_
    refine lv_iconst (v := 2) hx hb dL_law_1619 (by decide) ?_
    refine lv_iadd hx hb dL_law_1620 ?_
    refine lv_topi (fun y_7 ey_7 => ?_)
    obtain rfl : y_7 = 2 := ey_7.trans (by decide)
    refine va_sld hx hb hX hbl hbA hS (by rw [hL6]; unfold vp_in; decide) dL_law_1621 ?_
    refine lv_aload_n hx hb dL_law_1622 rfl (lv_at hl 3 rfl) ?_
    refine lv_iload_n hx hb dL_law_1623 rfl (lv_at hl 0 rfl) ?_
    refine lv_iconst (v := 3) hx hb dL_law_1624 (by decide) ?_
    refine lv_iadd hx hb dL_law_1625 ?_
    refine lv_topi (fun y_8 ey_8 => ?_)
    obtain rfl : y_8 = 3 := ey_8.trans (by decide)
    refine va_sld hx hb hX hbl hbA hS (by rw [hL6]; unfold vp_in; decide) dL_law_1626 ?_
    have hPc := hP.sub (ws' := [(hm_, .inr (12, [.int 0, .int 0, .ref (am 2), .ref (am 3), .ref (am 4), .int 0, .ref (am 6), .ref (am 7), .ref (am 8), .int 0, .ref (am 10), .ref (am 11), .ref (am 12), .ref (am 13), .ref (am 14), .ref (am 15), .int 0, .ref (am 17), .ref (am 18), .ref (am 19), .ref (am 20), .int 0, .ref (am 22), .int 0, .ref (am 24), .ref (am 25), .ref (am 26), .ref (am 27), .ref (am 28), .ref (am 29), .int 0, .ref (am 31), .ref (am 32), .ref (am 33), .int 0, .ref (am 35), .int 0, .ref (am 37), .ref (am 38), .ref (am 39), .ref (am 40), .ref (am 41), .ref (am 42), .ref (am 43), .int 0, .ref (am 45), .ref (am 46), .ref (am 47), .int 0, .ref (am 49), .int 0, .ref (am 51), .int 0, .ref (am 53), .ref (am 54), .int 1, .int 0, .ref (am 57), .long 0, .ref (am 59), .ref (am 60), .long 0, .int 0, .int 0, .int 0, .int 0, .int 0, .int 0, .ref (am 68), .int 0, .int 0, .ref (am 71), .ref (am 72), .ref (am 73), .ref (am 74), .ref (am 75), .ref (am 76), .ref (am 77), .ref (am 78)])), (am 75, .inl (cs 75, 4, .inl fs)), (am 76, .inl (cs 76, 4, .inl (fun _ => (0 : Int32)))), (am 77, .inl (cs 77, 160, .inl (fun _ => (0 : Int32))))]) [10, 11, 12, 13] rfl
    have hKc := hK.sub (tys' := [(cs 75, .int), (cs 76, .int), (cs 77, .int)]) [5, 6, 7] rfl
    have hDc := hD.sub (ws' := [(hm_, .inr (12, [.int 0, .int 0, .ref (am 2), .ref (am 3), .ref (am 4), .int 0, .ref (am 6), .ref (am 7), .ref (am 8), .int 0, .ref (am 10), .ref (am 11), .ref (am 12), .ref (am 13), .ref (am 14), .ref (am 15), .int 0, .ref (am 17), .ref (am 18), .ref (am 19), .ref (am 20), .int 0, .ref (am 22), .int 0, .ref (am 24), .ref (am 25), .ref (am 26), .ref (am 27), .ref (am 28), .ref (am 29), .int 0, .ref (am 31), .ref (am 32), .ref (am 33), .int 0, .ref (am 35), .int 0, .ref (am 37), .ref (am 38), .ref (am 39), .ref (am 40), .ref (am 41), .ref (am 42), .ref (am 43), .int 0, .ref (am 45), .ref (am 46), .ref (am 47), .int 0, .ref (am 49), .int 0, .ref (am 51), .int 0, .ref (am 53), .ref (am 54), .int 1, .int 0, .ref (am 57), .long 0, .ref (am 59), .ref (am 60), .long 0, .int 0, .int 0, .int 0, .int 0, .int 0, .int 0, .ref (am 68), .int 0, .int 0, .ref (am 71), .ref (am 72), .ref (am 73), .ref (am 74), .ref (am 75), .ref (am 76), .ref (am 77), .ref (am 78)])), (am 75, .inl (cs 75, 4, .inl fs)), (am 76, .inl (cs 76, 4, .inl (fun _ => (0 : Int32)))), (am 77, .inl (cs 77, 160, .inl (fun _ => (0 : Int32))))]) [10, 11, 12, 13] (by decide) rfl
    have hFc := va_free (wc := [(hm_, .inr (12, [.int 0, .int 0, .ref (am 2), .ref (am 3), .ref (am 4), .int 0, .ref (am 6), .ref (am 7), .ref (am 8), .int 0, .ref (am 10), .ref (am 11), .ref (am 12), .ref (am 13), .ref (am 14), .ref (am 15), .int 0, .ref (am 17), .ref (am 18), .ref (am 19), .ref (am 20), .int 0, .ref (am 22), .int 0, .ref (am 24), .ref (am 25), .ref (am 26), .ref (am 27), .ref (am 28), .ref (am 29), .int 0, .ref (am 31), .ref (am 32), .ref (am 33), .int 0, .ref (am 35), .int 0, .ref (am 37), .ref (am 38), .ref (am 39), .ref (am 40), .ref (am 41), .ref (am 42), .ref (am 43), .int 0, .ref (am 45), .ref (am 46), .ref (am 47), .int 0, .ref (am 49), .int 0, .ref (am 51), .int 0, .ref (am 53), .ref (am 54), .int 1, .int 0, .ref (am 57), .long 0, .ref (am 59), .ref (am 60), .long 0, .int 0, .int 0, .int 0, .int 0, .int 0, .int 0, .ref (am 68), .int 0, .int 0, .ref (am 71), .ref (am 72), .ref (am 73), .ref (am 74), .ref (am 75), .ref (am 76), .ref (am 77), .ref (am 78)])), (am 75, .inl (cs 75, 4, .inl fs)), (am 76, .inl (cs 76, 4, .inl (fun _ => (0 : Int32)))), (am 77, .inl (cs 77, 160, .inl (fun _ => (0 : Int32))))]) hD hS hA [10, 11, 12, 13] rfl
    refine va_calli (va_runV (As := [.int (xs (1 : Int32).toNatClampNeg), .int (xs (2 : Int32).toNatClampNeg), .int (xs (3 : Int32).toNatClampNeg)]) (rest := [.int (-2)]) ⟨hx, hb, hml, hown, hts⟩ (rt_X12_sheet l dC dI H.size hm_ am cs fs (fun _ => (0 : Int32)) (fun _ => (0 : Int32)) (xs (1 : Int32).toNatClampNeg) (xs (2 : Int32).toNatClampNeg) (xs (3 : Int32).toNatClampNeg)) (cwV 3 hts gL_law_X12_sheet rfl rfl rfl (by decide +kernel) ⟨Nat.le_of_ble_eq_true rfl, Nat.le_of_ble_eq_true rfl⟩) ⟨fun a U g mk q => by obtain ⟨q0, q1, qP, qK, qD⟩ := q; exact ⟨q0, q1, qP, va_K.moved (u := U) (U := U.calling g mk a) (Vm.Alike.refl U.vm) qK, qD⟩, va_recv hKc hPc (ci := 12) (q0 := 0) rfl rfl, fun U hU hW => ⟨rfl, by rw [hU], by rw [hU]; exact hPc, va_K.moved hW.alike hKc, hDc.weaken (fun _ _ _ _ => trivial)⟩⟩ rfl rfl hl.1 rfl (lv_room (Nat.le_of_ble_eq_true rfl)) dL_law_1627 ⟨by decide +kernel, by decide +kernel⟩) hS (fun q _ h => hFc q h) hFc (fun r_9 u t H1 locs ht hvm hr_9 hB hz1 hk1 hS => ?_)
    obtain ⟨⟩ := u
    have hP1 : va_P (dC, dI) vwCl [] H1 := fun k q h => by simp at h
    have hD1 : va_D (va_A [(hm_, .inr (12, [.int 0, .int 0, .ref (am 2), .ref (am 3), .ref (am 4), .int 0, .ref (am 6), .ref (am 7), .ref (am 8), .int 0, .ref (am 10), .ref (am 11), .ref (am 12), .ref (am 13), .ref (am 14), .ref (am 15), .int 0, .ref (am 17), .ref (am 18), .ref (am 19), .ref (am 20), .int 0, .ref (am 22), .int 0, .ref (am 24), .ref (am 25), .ref (am 26), .ref (am 27), .ref (am 28), .ref (am 29), .int 0, .ref (am 31), .ref (am 32), .ref (am 33), .int 0, .ref (am 35), .int 0, .ref (am 37), .ref (am 38), .ref (am 39), .ref (am 40), .ref (am 41), .ref (am 42), .ref (am 43), .int 0, .ref (am 45), .ref (am 46), .ref (am 47), .int 0, .ref (am 49), .int 0, .ref (am 51), .int 0, .ref (am 53), .ref (am 54), .int 1, .int 0, .ref (am 57), .long 0, .ref (am 59), .ref (am 60), .long 0, .int 0, .int 0, .int 0, .int 0, .int 0, .int 0, .ref (am 68), .int 0, .int 0, .ref (am 71), .ref (am 72), .ref (am 73), .ref (am 74), .ref (am 75), .ref (am 76), .ref (am 77), .ref (am 78)])), (am 75, .inl (cs 75, 4, .inl fs)), (am 76, .inl (cs 76, 4, .inl (fun _ => (0 : Int32)))), (am 77, .inl (cs 77, 160, .inl (fun _ => (0 : Int32))))] H.size) [] := ⟨fun i j p q h => by simp at h, fun k q h => by simp at h⟩
    obtain ⟨hP, hD⟩ := va_join (wr := [(hc_, .inr (11, [.ref (ad 0), .ref (ad 1), .ref (ad 2), .ref (ad 3), .ref (ad 4), .ref (ad 5), .ref (ad 6), .ref (ad 7), .ref (ad 8), .int 0, .int 0, .int 0, .int 0])), (ad 8, .inl (cd 8, 4, .inr (.inr (.inr (.inr (va_up (va_up (va_up (va_up (fun _ => none) 0 (some (sa 0))) 1 (some (sa 1))) 2 (some (sa 2))) 3 (some (sa 3)))))))), (sa 0, .inr (7, [.ref (ai 0), .int (-1), .int 0])), (ai 0, .inl (ci 0, 40, .inl (fun _ => (0 : Int32)))), (sa 1, .inr (7, [.ref (ai 1), .int (-1), .int 0])), (ai 1, .inl (ci 1, 40, .inl (fun _ => (0 : Int32)))), (sa 2, .inr (7, [.ref (ai 2), .int (-1), .int 0])), (ai 2, .inl (ci 2, 40, .inl (fun _ => (0 : Int32)))), (sa 3, .inr (7, [.ref (ai 3), .int (-1), .int 0])), (ai 3, .inl (ci 3, 40, .inl (fun _ => (0 : Int32))))]) (w1 := []) hP hD [10, 11, 12, 13] [0, 1, 2, 3, 4, 5, 6, 7, 8, 9] rfl rfl (by decide) (by decide) hk1 hFc hP1 hD1
    generalize H1 = H at hP hS ⊢
    have hP : va_P (dC, dI) vwCl [(hc_, .inr (11, [.ref (ad 0), .ref (ad 1), .ref (ad 2), .ref (ad 3), .ref (ad 4), .ref (ad 5), .ref (ad 6), .ref (ad 7), .ref (ad 8), .int 0, .int 0, .int 0, .int 0])), (ad 8, .inl (cd 8, 4, .inr (.inr (.inr (.inr (va_up (va_up (va_up (va_up (fun _ => none) 0 (some (sa 0))) 1 (some (sa 1))) 2 (some (sa 2))) 3 (some (sa 3)))))))), (sa 0, .inr (7, [.ref (ai 0), .int (-1), .int 0])), (ai 0, .inl (ci 0, 40, .inl (fun _ => (0 : Int32)))), (sa 1, .inr (7, [.ref (ai 1), .int (-1), .int 0])), (ai 1, .inl (ci 1, 40, .inl (fun _ => (0 : Int32)))), (sa 2, .inr (7, [.ref (ai 2), .int (-1), .int 0])), (ai 2, .inl (ci 2, 40, .inl (fun _ => (0 : Int32)))), (sa 3, .inr (7, [.ref (ai 3), .int (-1), .int 0])), (ai 3, .inl (ci 3, 40, .inl (fun _ => (0 : Int32))))] H := hP
    have hD : va_D A [(hc_, .inr (11, [.ref (ad 0), .ref (ad 1), .ref (ad 2), .ref (ad 3), .ref (ad 4), .ref (ad 5), .ref (ad 6), .ref (ad 7), .ref (ad 8), .int 0, .int 0, .int 0, .int 0])), (ad 8, .inl (cd 8, 4, .inr (.inr (.inr (.inr (va_up (va_up (va_up (va_up (fun _ => none) 0 (some (sa 0))) 1 (some (sa 1))) 2 (some (sa 2))) 3 (some (sa 3)))))))), (sa 0, .inr (7, [.ref (ai 0), .int (-1), .int 0])), (ai 0, .inl (ci 0, 40, .inl (fun _ => (0 : Int32)))), (sa 1, .inr (7, [.ref (ai 1), .int (-1), .int 0])), (ai 1, .inl (ci 1, 40, .inl (fun _ => (0 : Int32)))), (sa 2, .inr (7, [.ref (ai 2), .int (-1), .int 0])), (ai 2, .inl (ci 2, 40, .inl (fun _ => (0 : Int32)))), (sa 3, .inr (7, [.ref (ai 3), .int (-1), .int 0])), (ai 3, .inl (ci 3, 40, .inl (fun _ => (0 : Int32))))] := hD
    try dsimp only at hr_9
    have hq : ((-2) : Int32) = r_9 := by
      rcases hr_9 with ⟨a1, e1⟩ | ⟨a1, e1⟩ | ⟨a1, e1⟩ | ⟨a1, e1⟩ | ⟨a1, e1⟩ <;> first | (rw [e1]; done) | (exfalso; (try simp only [fa_lt, fa_le, fa_eq, fa_lt64, fa_le64, fa_eq64, Int32.reduceToInt, Int64.reduceToInt, zi_ite] at c_4); (try simp only [fa_lt, fa_le, fa_eq, fa_lt64, fa_le64, fa_eq64, Int32.reduceToInt, Int64.reduceToInt, zi_ite] at a1); omega)
    refine lv_icmp_eq (tgt := 1837) hx hb dL_law_1630 (by decide) (fun _ => ?_) (fun c9 => absurd hq c9)
    exact law_fin C0 hL6 hS (by decide +kernel) (by decide +kernel) ls (lv_sub hl [3, 2, 1, 0] rfl)
  · have hPc := hP.sub (ws' := [(hc_, .inr (11, [.ref (ad 0), .ref (ad 1), .ref (ad 2), .ref (ad 3), .ref (ad 4), .ref (ad 5), .ref (ad 6), .ref (ad 7), .ref (ad 8), .int 0, .int 0, .int 0, .int 0])), (ad 8, .inl (cd 8, 4, .inr (.inr (.inr (.inr (va_up (va_up (va_up (va_up (fun _ => none) 0 (some (sa 0))) 1 (some (sa 1))) 2 (some (sa 2))) 3 (some (sa 3)))))))), (sa 0, .inr (7, [.ref ((fun _ => ai 0) 0), .int (-1), .int 0])), ((fun _ => ai 0) 0, .inl (ci 0, 40, .inl (fun _ => (0 : Int32))))]) [0, 1, 2, 3] rfl
    have hKc := hK.sub (tys' := [(cd 8, .object RX7), (ci 0, .int)]) [0, 1] rfl
    have hDc := hD.sub (ws' := [(hc_, .inr (11, [.ref (ad 0), .ref (ad 1), .ref (ad 2), .ref (ad 3), .ref (ad 4), .ref (ad 5), .ref (ad 6), .ref (ad 7), .ref (ad 8), .int 0, .int 0, .int 0, .int 0])), (ad 8, .inl (cd 8, 4, .inr (.inr (.inr (.inr (va_up (va_up (va_up (va_up (fun _ => none) 0 (some (sa 0))) 1 (some (sa 1))) 2 (some (sa 2))) 3 (some (sa 3)))))))), (sa 0, .inr (7, [.ref ((fun _ => ai 0) 0), .int (-1), .int 0])), ((fun _ => ai 0) 0, .inl (ci 0, 40, .inl (fun _ => (0 : Int32))))]) [0, 1, 2, 3] (by decide) rfl
    have hFc := va_free (wc := [(hc_, .inr (11, [.ref (ad 0), .ref (ad 1), .ref (ad 2), .ref (ad 3), .ref (ad 4), .ref (ad 5), .ref (ad 6), .ref (ad 7), .ref (ad 8), .int 0, .int 0, .int 0, .int 0])), (ad 8, .inl (cd 8, 4, .inr (.inr (.inr (.inr (va_up (va_up (va_up (va_up (fun _ => none) 0 (some (sa 0))) 1 (some (sa 1))) 2 (some (sa 2))) 3 (some (sa 3)))))))), (sa 0, .inr (7, [.ref ((fun _ => ai 0) 0), .int (-1), .int 0])), ((fun _ => ai 0) 0, .inl (ci 0, 40, .inl (fun _ => (0 : Int32))))]) hD hS hA [0, 1, 2, 3] rfl
    refine va_calli (va_runV (As := [.int (xs (1 : Int32).toNatClampNeg), .int (xs (2 : Int32).toNatClampNeg), .int (xs (3 : Int32).toNatClampNeg)]) (rest := []) ⟨hx, hb, hml, hown, hts⟩ (rt_X11_sheetI l dC dI H.size hc_ ad (cd 8) (va_up (va_up (va_up (va_up (fun _ => none) 0 (some (sa 0))) 1 (some (sa 1))) 2 (some (sa 2))) 3 (some (sa 3))) (sa 0) (fun _ => ai 0) (ci 0) (fun _ => (0 : Int32)) (xs (1 : Int32).toNatClampNeg) (xs (2 : Int32).toNatClampNeg) (xs (3 : Int32).toNatClampNeg) (by rw [c_4]; decide) (by rw [c_4]; rfl)) (cwV 3 hts gL_law_X11_sheet rfl rfl rfl (by decide +kernel) ⟨Nat.le_of_ble_eq_true rfl, Nat.le_of_ble_eq_true rfl⟩) ⟨fun a U g mk q => by obtain ⟨q0, q1, qP, qK, qD⟩ := q; exact ⟨q0, q1, qP, va_K.moved (u := U) (U := U.calling g mk a) (Vm.Alike.refl U.vm) qK, qD⟩, va_recv hKc hPc (ci := 11) (q0 := 0) rfl rfl, fun U hU hW => ⟨rfl, by rw [hU], by rw [hU]; exact hPc, va_K.moved hW.alike hKc, hDc.weaken (fun _ _ _ _ => trivial)⟩⟩ rfl rfl hl.1 rfl (lv_room (Nat.le_of_ble_eq_true rfl)) dL_law_1608 ⟨by decide +kernel, by decide +kernel⟩) hS (fun q _ h => hFc q h) hFc (fun r_10 u t H1 locs ht hvm hr_10 hB hz1 hk1 hS => ?_)
    obtain ⟨⟩ := u
    have hP1 : va_P (dC, dI) vwCl [] H1 := fun k q h => by simp at h
    have hD1 : va_D (va_A [(hc_, .inr (11, [.ref (ad 0), .ref (ad 1), .ref (ad 2), .ref (ad 3), .ref (ad 4), .ref (ad 5), .ref (ad 6), .ref (ad 7), .ref (ad 8), .int 0, .int 0, .int 0, .int 0])), (ad 8, .inl (cd 8, 4, .inr (.inr (.inr (.inr (va_up (va_up (va_up (va_up (fun _ => none) 0 (some (sa 0))) 1 (some (sa 1))) 2 (some (sa 2))) 3 (some (sa 3)))))))), (sa 0, .inr (7, [.ref ((fun _ => ai 0) 0), .int (-1), .int 0])), ((fun _ => ai 0) 0, .inl (ci 0, 40, .inl (fun _ => (0 : Int32))))] H.size) [] := ⟨fun i j p q h => by simp at h, fun k q h => by simp at h⟩
    obtain ⟨hP, hD⟩ := va_join (wr := [(sa 1, .inr (7, [.ref (ai 1), .int (-1), .int 0])), (ai 1, .inl (ci 1, 40, .inl (fun _ => (0 : Int32)))), (sa 2, .inr (7, [.ref (ai 2), .int (-1), .int 0])), (ai 2, .inl (ci 2, 40, .inl (fun _ => (0 : Int32)))), (sa 3, .inr (7, [.ref (ai 3), .int (-1), .int 0])), (ai 3, .inl (ci 3, 40, .inl (fun _ => (0 : Int32)))), (hm_, .inr (12, [.int 0, .int 0, .ref (am 2), .ref (am 3), .ref (am 4), .int 0, .ref (am 6), .ref (am 7), .ref (am 8), .int 0, .ref (am 10), .ref (am 11), .ref (am 12), .ref (am 13), .ref (am 14), .ref (am 15), .int 0, .ref (am 17), .ref (am 18), .ref (am 19), .ref (am 20), .int 0, .ref (am 22), .int 0, .ref (am 24), .ref (am 25), .ref (am 26), .ref (am 27), .ref (am 28), .ref (am 29), .int 0, .ref (am 31), .ref (am 32), .ref (am 33), .int 0, .ref (am 35), .int 0, .ref (am 37), .ref (am 38), .ref (am 39), .ref (am 40), .ref (am 41), .ref (am 42), .ref (am 43), .int 0, .ref (am 45), .ref (am 46), .ref (am 47), .int 0, .ref (am 49), .int 0, .ref (am 51), .int 0, .ref (am 53), .ref (am 54), .int 1, .int 0, .ref (am 57), .long 0, .ref (am 59), .ref (am 60), .long 0, .int 0, .int 0, .int 0, .int 0, .int 0, .int 0, .ref (am 68), .int 0, .int 0, .ref (am 71), .ref (am 72), .ref (am 73), .ref (am 74), .ref (am 75), .ref (am 76), .ref (am 77), .ref (am 78)])), (am 75, .inl (cs 75, 4, .inl fs)), (am 76, .inl (cs 76, 4, .inl (fun _ => (0 : Int32)))), (am 77, .inl (cs 77, 160, .inl (fun _ => (0 : Int32))))]) (w1 := []) hP hD [0, 1, 2, 3] [4, 5, 6, 7, 8, 9, 10, 11, 12, 13] rfl rfl (by decide) (by decide) hk1 hFc hP1 hD1
    generalize H1 = H at hP hS ⊢
    have hP : va_P (dC, dI) vwCl [(sa 1, .inr (7, [.ref (ai 1), .int (-1), .int 0])), (ai 1, .inl (ci 1, 40, .inl (fun _ => (0 : Int32)))), (sa 2, .inr (7, [.ref (ai 2), .int (-1), .int 0])), (ai 2, .inl (ci 2, 40, .inl (fun _ => (0 : Int32)))), (sa 3, .inr (7, [.ref (ai 3), .int (-1), .int 0])), (ai 3, .inl (ci 3, 40, .inl (fun _ => (0 : Int32)))), (hm_, .inr (12, [.int 0, .int 0, .ref (am 2), .ref (am 3), .ref (am 4), .int 0, .ref (am 6), .ref (am 7), .ref (am 8), .int 0, .ref (am 10), .ref (am 11), .ref (am 12), .ref (am 13), .ref (am 14), .ref (am 15), .int 0, .ref (am 17), .ref (am 18), .ref (am 19), .ref (am 20), .int 0, .ref (am 22), .int 0, .ref (am 24), .ref (am 25), .ref (am 26), .ref (am 27), .ref (am 28), .ref (am 29), .int 0, .ref (am 31), .ref (am 32), .ref (am 33), .int 0, .ref (am 35), .int 0, .ref (am 37), .ref (am 38), .ref (am 39), .ref (am 40), .ref (am 41), .ref (am 42), .ref (am 43), .int 0, .ref (am 45), .ref (am 46), .ref (am 47), .int 0, .ref (am 49), .int 0, .ref (am 51), .int 0, .ref (am 53), .ref (am 54), .int 1, .int 0, .ref (am 57), .long 0, .ref (am 59), .ref (am 60), .long 0, .int 0, .int 0, .int 0, .int 0, .int 0, .int 0, .ref (am 68), .int 0, .int 0, .ref (am 71), .ref (am 72), .ref (am 73), .ref (am 74), .ref (am 75), .ref (am 76), .ref (am 77), .ref (am 78)])), (am 75, .inl (cs 75, 4, .inl fs)), (am 76, .inl (cs 76, 4, .inl (fun _ => (0 : Int32)))), (am 77, .inl (cs 77, 160, .inl (fun _ => (0 : Int32))))] H := hP
    have hD : va_D A [(sa 1, .inr (7, [.ref (ai 1), .int (-1), .int 0])), (ai 1, .inl (ci 1, 40, .inl (fun _ => (0 : Int32)))), (sa 2, .inr (7, [.ref (ai 2), .int (-1), .int 0])), (ai 2, .inl (ci 2, 40, .inl (fun _ => (0 : Int32)))), (sa 3, .inr (7, [.ref (ai 3), .int (-1), .int 0])), (ai 3, .inl (ci 3, 40, .inl (fun _ => (0 : Int32)))), (hm_, .inr (12, [.int 0, .int 0, .ref (am 2), .ref (am 3), .ref (am 4), .int 0, .ref (am 6), .ref (am 7), .ref (am 8), .int 0, .ref (am 10), .ref (am 11), .ref (am 12), .ref (am 13), .ref (am 14), .ref (am 15), .int 0, .ref (am 17), .ref (am 18), .ref (am 19), .ref (am 20), .int 0, .ref (am 22), .int 0, .ref (am 24), .ref (am 25), .ref (am 26), .ref (am 27), .ref (am 28), .ref (am 29), .int 0, .ref (am 31), .ref (am 32), .ref (am 33), .int 0, .ref (am 35), .int 0, .ref (am 37), .ref (am 38), .ref (am 39), .ref (am 40), .ref (am 41), .ref (am 42), .ref (am 43), .int 0, .ref (am 45), .ref (am 46), .ref (am 47), .int 0, .ref (am 49), .int 0, .ref (am 51), .int 0, .ref (am 53), .ref (am 54), .int 1, .int 0, .ref (am 57), .long 0, .ref (am 59), .ref (am 60), .long 0, .int 0, .int 0, .int 0, .int 0, .int 0, .int 0, .ref (am 68), .int 0, .int 0, .ref (am 71), .ref (am 72), .ref (am 73), .ref (am 74), .ref (am 75), .ref (am 76), .ref (am 77), .ref (am 78)])), (am 75, .inl (cs 75, 4, .inl fs)), (am 76, .inl (cs 76, 4, .inl (fun _ => (0 : Int32)))), (am 77, .inl (cs 77, 160, .inl (fun _ => (0 : Int32))))] := hD
    try dsimp only at hr_10
    refine lv_aload_n hx hb dL_law_1611 rfl (lv_at hl 1 rfl) ?_
    refine lv_aload_n hx hb dL_law_1612 rfl (lv_at hl 3 rfl) ?_
    refine lv_iload_n hx hb dL_law_1613 rfl (lv_at hl 0 rfl) ?_
    refine lv_iconst (v := 1) hx hb dL_law_1614 (by decide) ?_
    refine lv_iadd hx hb dL_law_1615 ?_
    refine lv_topi (fun y_11 ey_11 => ?_)
    obtain rfl : y_11 = 1 := ey_11.trans (by decide)
    refine va_sld hx hb hX hbl hbA hS (by rw [hL6]; unfold vp_in; decide) dL_law_1616 ?_
    refine lv_aload_n hx hb dL_law_1617 rfl (lv_at hl 3 rfl) ?_
    refine lv_iload_n hx hb dL_law_1618 rfl (lv_at hl 0 rfl) ?_
    refine lv_iconst (v := 2) hx hb dL_law_1619 (by decide) ?_
    refine lv_iadd hx hb dL_law_1620 ?_
    refine lv_topi (fun y_12 ey_12 => ?_)
    obtain rfl : y_12 = 2 := ey_12.trans (by decide)
    refine va_sld hx hb hX hbl hbA hS (by rw [hL6]; unfold vp_in; decide) dL_law_1621 ?_
    refine lv_aload_n hx hb dL_law_1622 rfl (lv_at hl 3 rfl) ?_
    refine lv_iload_n hx hb dL_law_1623 rfl (lv_at hl 0 rfl) ?_
    refine lv_iconst (v := 3) hx hb dL_law_1624 (by decide) ?_
    refine lv_iadd hx hb dL_law_1625 ?_
    refine lv_topi (fun y_13 ey_13 => ?_)
    obtain rfl : y_13 = 3 := ey_13.trans (by decide)
    refine va_sld hx hb hX hbl hbA hS (by rw [hL6]; unfold vp_in; decide) dL_law_1626 ?_
    have hPc := hP.sub (ws' := [(hm_, .inr (12, [.int 0, .int 0, .ref (am 2), .ref (am 3), .ref (am 4), .int 0, .ref (am 6), .ref (am 7), .ref (am 8), .int 0, .ref (am 10), .ref (am 11), .ref (am 12), .ref (am 13), .ref (am 14), .ref (am 15), .int 0, .ref (am 17), .ref (am 18), .ref (am 19), .ref (am 20), .int 0, .ref (am 22), .int 0, .ref (am 24), .ref (am 25), .ref (am 26), .ref (am 27), .ref (am 28), .ref (am 29), .int 0, .ref (am 31), .ref (am 32), .ref (am 33), .int 0, .ref (am 35), .int 0, .ref (am 37), .ref (am 38), .ref (am 39), .ref (am 40), .ref (am 41), .ref (am 42), .ref (am 43), .int 0, .ref (am 45), .ref (am 46), .ref (am 47), .int 0, .ref (am 49), .int 0, .ref (am 51), .int 0, .ref (am 53), .ref (am 54), .int 1, .int 0, .ref (am 57), .long 0, .ref (am 59), .ref (am 60), .long 0, .int 0, .int 0, .int 0, .int 0, .int 0, .int 0, .ref (am 68), .int 0, .int 0, .ref (am 71), .ref (am 72), .ref (am 73), .ref (am 74), .ref (am 75), .ref (am 76), .ref (am 77), .ref (am 78)])), (am 75, .inl (cs 75, 4, .inl fs)), (am 76, .inl (cs 76, 4, .inl (fun _ => (0 : Int32)))), (am 77, .inl (cs 77, 160, .inl (fun _ => (0 : Int32))))]) [6, 7, 8, 9] rfl
    have hKc := hK.sub (tys' := [(cs 75, .int), (cs 76, .int), (cs 77, .int)]) [5, 6, 7] rfl
    have hDc := hD.sub (ws' := [(hm_, .inr (12, [.int 0, .int 0, .ref (am 2), .ref (am 3), .ref (am 4), .int 0, .ref (am 6), .ref (am 7), .ref (am 8), .int 0, .ref (am 10), .ref (am 11), .ref (am 12), .ref (am 13), .ref (am 14), .ref (am 15), .int 0, .ref (am 17), .ref (am 18), .ref (am 19), .ref (am 20), .int 0, .ref (am 22), .int 0, .ref (am 24), .ref (am 25), .ref (am 26), .ref (am 27), .ref (am 28), .ref (am 29), .int 0, .ref (am 31), .ref (am 32), .ref (am 33), .int 0, .ref (am 35), .int 0, .ref (am 37), .ref (am 38), .ref (am 39), .ref (am 40), .ref (am 41), .ref (am 42), .ref (am 43), .int 0, .ref (am 45), .ref (am 46), .ref (am 47), .int 0, .ref (am 49), .int 0, .ref (am 51), .int 0, .ref (am 53), .ref (am 54), .int 1, .int 0, .ref (am 57), .long 0, .ref (am 59), .ref (am 60), .long 0, .int 0, .int 0, .int 0, .int 0, .int 0, .int 0, .ref (am 68), .int 0, .int 0, .ref (am 71), .ref (am 72), .ref (am 73), .ref (am 74), .ref (am 75), .ref (am 76), .ref (am 77), .ref (am 78)])), (am 75, .inl (cs 75, 4, .inl fs)), (am 76, .inl (cs 76, 4, .inl (fun _ => (0 : Int32)))), (am 77, .inl (cs 77, 160, .inl (fun _ => (0 : Int32))))]) [6, 7, 8, 9] (by decide) rfl
    have hFc := va_free (wc := [(hm_, .inr (12, [.int 0, .int 0, .ref (am 2), .ref (am 3), .ref (am 4), .int 0, .ref (am 6), .ref (am 7), .ref (am 8), .int 0, .ref (am 10), .ref (am 11), .ref (am 12), .ref (am 13), .ref (am 14), .ref (am 15), .int 0, .ref (am 17), .ref (am 18), .ref (am 19), .ref (am 20), .int 0, .ref (am 22), .int 0, .ref (am 24), .ref (am 25), .ref (am 26), .ref (am 27), .ref (am 28), .ref (am 29), .int 0, .ref (am 31), .ref (am 32), .ref (am 33), .int 0, .ref (am 35), .int 0, .ref (am 37), .ref (am 38), .ref (am 39), .ref (am 40), .ref (am 41), .ref (am 42), .ref (am 43), .int 0, .ref (am 45), .ref (am 46), .ref (am 47), .int 0, .ref (am 49), .int 0, .ref (am 51), .int 0, .ref (am 53), .ref (am 54), .int 1, .int 0, .ref (am 57), .long 0, .ref (am 59), .ref (am 60), .long 0, .int 0, .int 0, .int 0, .int 0, .int 0, .int 0, .ref (am 68), .int 0, .int 0, .ref (am 71), .ref (am 72), .ref (am 73), .ref (am 74), .ref (am 75), .ref (am 76), .ref (am 77), .ref (am 78)])), (am 75, .inl (cs 75, 4, .inl fs)), (am 76, .inl (cs 76, 4, .inl (fun _ => (0 : Int32)))), (am 77, .inl (cs 77, 160, .inl (fun _ => (0 : Int32))))]) hD hS hA [6, 7, 8, 9] rfl
    refine va_calli (va_runV (As := [.int (xs (1 : Int32).toNatClampNeg), .int (xs (2 : Int32).toNatClampNeg), .int (xs (3 : Int32).toNatClampNeg)]) (rest := [.int r_10]) ⟨hx, hb, hml, hown, hts⟩ (rt_X12_sheet l dC dI H.size hm_ am cs fs (fun _ => (0 : Int32)) (fun _ => (0 : Int32)) (xs (1 : Int32).toNatClampNeg) (xs (2 : Int32).toNatClampNeg) (xs (3 : Int32).toNatClampNeg)) (cwV 3 hts gL_law_X12_sheet rfl rfl rfl (by decide +kernel) ⟨Nat.le_of_ble_eq_true rfl, Nat.le_of_ble_eq_true rfl⟩) ⟨fun a U g mk q => by obtain ⟨q0, q1, qP, qK, qD⟩ := q; exact ⟨q0, q1, qP, va_K.moved (u := U) (U := U.calling g mk a) (Vm.Alike.refl U.vm) qK, qD⟩, va_recv hKc hPc (ci := 12) (q0 := 0) rfl rfl, fun U hU hW => ⟨rfl, by rw [hU], by rw [hU]; exact hPc, va_K.moved hW.alike hKc, hDc.weaken (fun _ _ _ _ => trivial)⟩⟩ rfl rfl hl.1 rfl (lv_room (Nat.le_of_ble_eq_true rfl)) dL_law_1627 ⟨by decide +kernel, by decide +kernel⟩) hS (fun q _ h => hFc q h) hFc (fun r_14 u t H1 locs ht hvm hr_14 hB hz1 hk1 hS => ?_)
    obtain ⟨⟩ := u
    have hP1 : va_P (dC, dI) vwCl [] H1 := fun k q h => by simp at h
    have hD1 : va_D (va_A [(hm_, .inr (12, [.int 0, .int 0, .ref (am 2), .ref (am 3), .ref (am 4), .int 0, .ref (am 6), .ref (am 7), .ref (am 8), .int 0, .ref (am 10), .ref (am 11), .ref (am 12), .ref (am 13), .ref (am 14), .ref (am 15), .int 0, .ref (am 17), .ref (am 18), .ref (am 19), .ref (am 20), .int 0, .ref (am 22), .int 0, .ref (am 24), .ref (am 25), .ref (am 26), .ref (am 27), .ref (am 28), .ref (am 29), .int 0, .ref (am 31), .ref (am 32), .ref (am 33), .int 0, .ref (am 35), .int 0, .ref (am 37), .ref (am 38), .ref (am 39), .ref (am 40), .ref (am 41), .ref (am 42), .ref (am 43), .int 0, .ref (am 45), .ref (am 46), .ref (am 47), .int 0, .ref (am 49), .int 0, .ref (am 51), .int 0, .ref (am 53), .ref (am 54), .int 1, .int 0, .ref (am 57), .long 0, .ref (am 59), .ref (am 60), .long 0, .int 0, .int 0, .int 0, .int 0, .int 0, .int 0, .ref (am 68), .int 0, .int 0, .ref (am 71), .ref (am 72), .ref (am 73), .ref (am 74), .ref (am 75), .ref (am 76), .ref (am 77), .ref (am 78)])), (am 75, .inl (cs 75, 4, .inl fs)), (am 76, .inl (cs 76, 4, .inl (fun _ => (0 : Int32)))), (am 77, .inl (cs 77, 160, .inl (fun _ => (0 : Int32))))] H.size) [] := ⟨fun i j p q h => by simp at h, fun k q h => by simp at h⟩
    obtain ⟨hP, hD⟩ := va_join (wr := [(sa 1, .inr (7, [.ref (ai 1), .int (-1), .int 0])), (ai 1, .inl (ci 1, 40, .inl (fun _ => (0 : Int32)))), (sa 2, .inr (7, [.ref (ai 2), .int (-1), .int 0])), (ai 2, .inl (ci 2, 40, .inl (fun _ => (0 : Int32)))), (sa 3, .inr (7, [.ref (ai 3), .int (-1), .int 0])), (ai 3, .inl (ci 3, 40, .inl (fun _ => (0 : Int32))))]) (w1 := []) hP hD [6, 7, 8, 9] [0, 1, 2, 3, 4, 5] rfl rfl (by decide) (by decide) hk1 hFc hP1 hD1
    generalize H1 = H at hP hS ⊢
    have hP : va_P (dC, dI) vwCl [(sa 1, .inr (7, [.ref (ai 1), .int (-1), .int 0])), (ai 1, .inl (ci 1, 40, .inl (fun _ => (0 : Int32)))), (sa 2, .inr (7, [.ref (ai 2), .int (-1), .int 0])), (ai 2, .inl (ci 2, 40, .inl (fun _ => (0 : Int32)))), (sa 3, .inr (7, [.ref (ai 3), .int (-1), .int 0])), (ai 3, .inl (ci 3, 40, .inl (fun _ => (0 : Int32))))] H := hP
    have hD : va_D A [(sa 1, .inr (7, [.ref (ai 1), .int (-1), .int 0])), (ai 1, .inl (ci 1, 40, .inl (fun _ => (0 : Int32)))), (sa 2, .inr (7, [.ref (ai 2), .int (-1), .int 0])), (ai 2, .inl (ci 2, 40, .inl (fun _ => (0 : Int32)))), (sa 3, .inr (7, [.ref (ai 3), .int (-1), .int 0])), (ai 3, .inl (ci 3, 40, .inl (fun _ => (0 : Int32))))] := hD
    try dsimp only at hr_14
    have hq : (r_10 : Int32) = r_14 := by
      rcases hr_10 with ⟨a0, e0⟩ | ⟨a0, e0⟩ | ⟨a0, e0⟩ | ⟨a0, e0⟩ | ⟨a0, e0⟩ <;> rcases hr_14 with ⟨a1, e1⟩ | ⟨a1, e1⟩ | ⟨a1, e1⟩ | ⟨a1, e1⟩ | ⟨a1, e1⟩ <;> first | (rw [e0, e1]; done) | (exfalso; (try simp only [fa_lt, fa_le, fa_eq, fa_lt64, fa_le64, fa_eq64, Int32.reduceToInt, Int64.reduceToInt, zi_ite] at c_4); (try simp only [fa_lt, fa_le, fa_eq, fa_lt64, fa_le64, fa_eq64, Int32.reduceToInt, Int64.reduceToInt, zi_ite] at a0); (try simp only [fa_lt, fa_le, fa_eq, fa_lt64, fa_le64, fa_eq64, Int32.reduceToInt, Int64.reduceToInt, zi_ite] at a1); omega)
    refine lv_icmp_eq (tgt := 1837) hx hb dL_law_1630 (by decide) (fun _ => ?_) (fun c9 => absurd hq c9)
    exact law_fin C0 hL6 hS (by decide +kernel) (by decide +kernel) ls (lv_sub hl [3, 2, 1, 0] rfl)
  · have hPc := hP.sub (ws' := [(hc_, .inr (11, [.ref (ad 0), .ref (ad 1), .ref (ad 2), .ref (ad 3), .ref (ad 4), .ref (ad 5), .ref (ad 6), .ref (ad 7), .ref (ad 8), .int 0, .int 0, .int 0, .int 0])), (ad 8, .inl (cd 8, 4, .inr (.inr (.inr (.inr (va_up (va_up (va_up (va_up (fun _ => none) 0 (some (sa 0))) 1 (some (sa 1))) 2 (some (sa 2))) 3 (some (sa 3)))))))), (sa 1, .inr (7, [.ref ((fun _ => ai 1) 0), .int (-1), .int 0])), ((fun _ => ai 1) 0, .inl (ci 1, 40, .inl (fun _ => (0 : Int32))))]) [0, 1, 4, 5] rfl
    have hKc := hK.sub (tys' := [(cd 8, .object RX7), (ci 1, .int)]) [0, 2] rfl
    have hDc := hD.sub (ws' := [(hc_, .inr (11, [.ref (ad 0), .ref (ad 1), .ref (ad 2), .ref (ad 3), .ref (ad 4), .ref (ad 5), .ref (ad 6), .ref (ad 7), .ref (ad 8), .int 0, .int 0, .int 0, .int 0])), (ad 8, .inl (cd 8, 4, .inr (.inr (.inr (.inr (va_up (va_up (va_up (va_up (fun _ => none) 0 (some (sa 0))) 1 (some (sa 1))) 2 (some (sa 2))) 3 (some (sa 3)))))))), (sa 1, .inr (7, [.ref ((fun _ => ai 1) 0), .int (-1), .int 0])), ((fun _ => ai 1) 0, .inl (ci 1, 40, .inl (fun _ => (0 : Int32))))]) [0, 1, 4, 5] (by decide) rfl
    have hFc := va_free (wc := [(hc_, .inr (11, [.ref (ad 0), .ref (ad 1), .ref (ad 2), .ref (ad 3), .ref (ad 4), .ref (ad 5), .ref (ad 6), .ref (ad 7), .ref (ad 8), .int 0, .int 0, .int 0, .int 0])), (ad 8, .inl (cd 8, 4, .inr (.inr (.inr (.inr (va_up (va_up (va_up (va_up (fun _ => none) 0 (some (sa 0))) 1 (some (sa 1))) 2 (some (sa 2))) 3 (some (sa 3)))))))), (sa 1, .inr (7, [.ref ((fun _ => ai 1) 0), .int (-1), .int 0])), ((fun _ => ai 1) 0, .inl (ci 1, 40, .inl (fun _ => (0 : Int32))))]) hD hS hA [0, 1, 4, 5] rfl
    refine va_calli (va_runV (As := [.int (xs (1 : Int32).toNatClampNeg), .int (xs (2 : Int32).toNatClampNeg), .int (xs (3 : Int32).toNatClampNeg)]) (rest := []) ⟨hx, hb, hml, hown, hts⟩ (rt_X11_sheetI l dC dI H.size hc_ ad (cd 8) (va_up (va_up (va_up (va_up (fun _ => none) 0 (some (sa 0))) 1 (some (sa 1))) 2 (some (sa 2))) 3 (some (sa 3))) (sa 1) (fun _ => ai 1) (ci 1) (fun _ => (0 : Int32)) (xs (1 : Int32).toNatClampNeg) (xs (2 : Int32).toNatClampNeg) (xs (3 : Int32).toNatClampNeg) (by rw [c_4]; decide) (by rw [c_4]; rfl)) (cwV 3 hts gL_law_X11_sheet rfl rfl rfl (by decide +kernel) ⟨Nat.le_of_ble_eq_true rfl, Nat.le_of_ble_eq_true rfl⟩) ⟨fun a U g mk q => by obtain ⟨q0, q1, qP, qK, qD⟩ := q; exact ⟨q0, q1, qP, va_K.moved (u := U) (U := U.calling g mk a) (Vm.Alike.refl U.vm) qK, qD⟩, va_recv hKc hPc (ci := 11) (q0 := 0) rfl rfl, fun U hU hW => ⟨rfl, by rw [hU], by rw [hU]; exact hPc, va_K.moved hW.alike hKc, hDc.weaken (fun _ _ _ _ => trivial)⟩⟩ rfl rfl hl.1 rfl (lv_room (Nat.le_of_ble_eq_true rfl)) dL_law_1608 ⟨by decide +kernel, by decide +kernel⟩) hS (fun q _ h => hFc q h) hFc (fun r_15 u t H1 locs ht hvm hr_15 hB hz1 hk1 hS => ?_)
    obtain ⟨⟩ := u
    have hP1 : va_P (dC, dI) vwCl [] H1 := fun k q h => by simp at h
    have hD1 : va_D (va_A [(hc_, .inr (11, [.ref (ad 0), .ref (ad 1), .ref (ad 2), .ref (ad 3), .ref (ad 4), .ref (ad 5), .ref (ad 6), .ref (ad 7), .ref (ad 8), .int 0, .int 0, .int 0, .int 0])), (ad 8, .inl (cd 8, 4, .inr (.inr (.inr (.inr (va_up (va_up (va_up (va_up (fun _ => none) 0 (some (sa 0))) 1 (some (sa 1))) 2 (some (sa 2))) 3 (some (sa 3)))))))), (sa 1, .inr (7, [.ref ((fun _ => ai 1) 0), .int (-1), .int 0])), ((fun _ => ai 1) 0, .inl (ci 1, 40, .inl (fun _ => (0 : Int32))))] H.size) [] := ⟨fun i j p q h => by simp at h, fun k q h => by simp at h⟩
    obtain ⟨hP, hD⟩ := va_join (wr := [(sa 0, .inr (7, [.ref (ai 0), .int (-1), .int 0])), (ai 0, .inl (ci 0, 40, .inl (fun _ => (0 : Int32)))), (sa 2, .inr (7, [.ref (ai 2), .int (-1), .int 0])), (ai 2, .inl (ci 2, 40, .inl (fun _ => (0 : Int32)))), (sa 3, .inr (7, [.ref (ai 3), .int (-1), .int 0])), (ai 3, .inl (ci 3, 40, .inl (fun _ => (0 : Int32)))), (hm_, .inr (12, [.int 0, .int 0, .ref (am 2), .ref (am 3), .ref (am 4), .int 0, .ref (am 6), .ref (am 7), .ref (am 8), .int 0, .ref (am 10), .ref (am 11), .ref (am 12), .ref (am 13), .ref (am 14), .ref (am 15), .int 0, .ref (am 17), .ref (am 18), .ref (am 19), .ref (am 20), .int 0, .ref (am 22), .int 0, .ref (am 24), .ref (am 25), .ref (am 26), .ref (am 27), .ref (am 28), .ref (am 29), .int 0, .ref (am 31), .ref (am 32), .ref (am 33), .int 0, .ref (am 35), .int 0, .ref (am 37), .ref (am 38), .ref (am 39), .ref (am 40), .ref (am 41), .ref (am 42), .ref (am 43), .int 0, .ref (am 45), .ref (am 46), .ref (am 47), .int 0, .ref (am 49), .int 0, .ref (am 51), .int 0, .ref (am 53), .ref (am 54), .int 1, .int 0, .ref (am 57), .long 0, .ref (am 59), .ref (am 60), .long 0, .int 0, .int 0, .int 0, .int 0, .int 0, .int 0, .ref (am 68), .int 0, .int 0, .ref (am 71), .ref (am 72), .ref (am 73), .ref (am 74), .ref (am 75), .ref (am 76), .ref (am 77), .ref (am 78)])), (am 75, .inl (cs 75, 4, .inl fs)), (am 76, .inl (cs 76, 4, .inl (fun _ => (0 : Int32)))), (am 77, .inl (cs 77, 160, .inl (fun _ => (0 : Int32))))]) (w1 := []) hP hD [0, 1, 4, 5] [2, 3, 6, 7, 8, 9, 10, 11, 12, 13] rfl rfl (by decide) (by decide) hk1 hFc hP1 hD1
    generalize H1 = H at hP hS ⊢
    have hP : va_P (dC, dI) vwCl [(sa 0, .inr (7, [.ref (ai 0), .int (-1), .int 0])), (ai 0, .inl (ci 0, 40, .inl (fun _ => (0 : Int32)))), (sa 2, .inr (7, [.ref (ai 2), .int (-1), .int 0])), (ai 2, .inl (ci 2, 40, .inl (fun _ => (0 : Int32)))), (sa 3, .inr (7, [.ref (ai 3), .int (-1), .int 0])), (ai 3, .inl (ci 3, 40, .inl (fun _ => (0 : Int32)))), (hm_, .inr (12, [.int 0, .int 0, .ref (am 2), .ref (am 3), .ref (am 4), .int 0, .ref (am 6), .ref (am 7), .ref (am 8), .int 0, .ref (am 10), .ref (am 11), .ref (am 12), .ref (am 13), .ref (am 14), .ref (am 15), .int 0, .ref (am 17), .ref (am 18), .ref (am 19), .ref (am 20), .int 0, .ref (am 22), .int 0, .ref (am 24), .ref (am 25), .ref (am 26), .ref (am 27), .ref (am 28), .ref (am 29), .int 0, .ref (am 31), .ref (am 32), .ref (am 33), .int 0, .ref (am 35), .int 0, .ref (am 37), .ref (am 38), .ref (am 39), .ref (am 40), .ref (am 41), .ref (am 42), .ref (am 43), .int 0, .ref (am 45), .ref (am 46), .ref (am 47), .int 0, .ref (am 49), .int 0, .ref (am 51), .int 0, .ref (am 53), .ref (am 54), .int 1, .int 0, .ref (am 57), .long 0, .ref (am 59), .ref (am 60), .long 0, .int 0, .int 0, .int 0, .int 0, .int 0, .int 0, .ref (am 68), .int 0, .int 0, .ref (am 71), .ref (am 72), .ref (am 73), .ref (am 74), .ref (am 75), .ref (am 76), .ref (am 77), .ref (am 78)])), (am 75, .inl (cs 75, 4, .inl fs)), (am 76, .inl (cs 76, 4, .inl (fun _ => (0 : Int32)))), (am 77, .inl (cs 77, 160, .inl (fun _ => (0 : Int32))))] H := hP
    have hD : va_D A [(sa 0, .inr (7, [.ref (ai 0), .int (-1), .int 0])), (ai 0, .inl (ci 0, 40, .inl (fun _ => (0 : Int32)))), (sa 2, .inr (7, [.ref (ai 2), .int (-1), .int 0])), (ai 2, .inl (ci 2, 40, .inl (fun _ => (0 : Int32)))), (sa 3, .inr (7, [.ref (ai 3), .int (-1), .int 0])), (ai 3, .inl (ci 3, 40, .inl (fun _ => (0 : Int32)))), (hm_, .inr (12, [.int 0, .int 0, .ref (am 2), .ref (am 3), .ref (am 4), .int 0, .ref (am 6), .ref (am 7), .ref (am 8), .int 0, .ref (am 10), .ref (am 11), .ref (am 12), .ref (am 13), .ref (am 14), .ref (am 15), .int 0, .ref (am 17), .ref (am 18), .ref (am 19), .ref (am 20), .int 0, .ref (am 22), .int 0, .ref (am 24), .ref (am 25), .ref (am 26), .ref (am 27), .ref (am 28), .ref (am 29), .int 0, .ref (am 31), .ref (am 32), .ref (am 33), .int 0, .ref (am 35), .int 0, .ref (am 37), .ref (am 38), .ref (am 39), .ref (am 40), .ref (am 41), .ref (am 42), .ref (am 43), .int 0, .ref (am 45), .ref (am 46), .ref (am 47), .int 0, .ref (am 49), .int 0, .ref (am 51), .int 0, .ref (am 53), .ref (am 54), .int 1, .int 0, .ref (am 57), .long 0, .ref (am 59), .ref (am 60), .long 0, .int 0, .int 0, .int 0, .int 0, .int 0, .int 0, .ref (am 68), .int 0, .int 0, .ref (am 71), .ref (am 72), .ref (am 73), .ref (am 74), .ref (am 75), .ref (am 76), .ref (am 77), .ref (am 78)])), (am 75, .inl (cs 75, 4, .inl fs)), (am 76, .inl (cs 76, 4, .inl (fun _ => (0 : Int32)))), (am 77, .inl (cs 77, 160, .inl (fun _ => (0 : Int32))))] := hD
    try dsimp only at hr_15
    refine lv_aload_n hx hb dL_law_1611 rfl (lv_at hl 1 rfl) ?_
    refine lv_aload_n hx hb dL_law_1612 rfl (lv_at hl 3 rfl) ?_
    refine lv_iload_n hx hb dL_law_1613 rfl (lv_at hl 0 rfl) ?_
    refine lv_iconst (v := 1) hx hb dL_law_1614 (by decide) ?_
    refine lv_iadd hx hb dL_law_1615 ?_
    refine lv_topi (fun y_16 ey_16 => ?_)
    obtain rfl : y_16 = 1 := ey_16.trans (by decide)
    refine va_sld hx hb hX hbl hbA hS (by rw [hL6]; unfold vp_in; decide) dL_law_1616 ?_
    refine lv_aload_n hx hb dL_law_1617 rfl (lv_at hl 3 rfl) ?_
    refine lv_iload_n hx hb dL_law_1618 rfl (lv_at hl 0 rfl) ?_
    refine lv_iconst (v := 2) hx hb dL_law_1619 (by decide) ?_
    refine lv_iadd hx hb dL_law_1620 ?_
    refine lv_topi (fun y_17 ey_17 => ?_)
    obtain rfl : y_17 = 2 := ey_17.trans (by decide)
    refine va_sld hx hb hX hbl hbA hS (by rw [hL6]; unfold vp_in; decide) dL_law_1621 ?_
    refine lv_aload_n hx hb dL_law_1622 rfl (lv_at hl 3 rfl) ?_
    refine lv_iload_n hx hb dL_law_1623 rfl (lv_at hl 0 rfl) ?_
    refine lv_iconst (v := 3) hx hb dL_law_1624 (by decide) ?_
    refine lv_iadd hx hb dL_law_1625 ?_
    refine lv_topi (fun y_18 ey_18 => ?_)
    obtain rfl : y_18 = 3 := ey_18.trans (by decide)
    refine va_sld hx hb hX hbl hbA hS (by rw [hL6]; unfold vp_in; decide) dL_law_1626 ?_
    have hPc := hP.sub (ws' := [(hm_, .inr (12, [.int 0, .int 0, .ref (am 2), .ref (am 3), .ref (am 4), .int 0, .ref (am 6), .ref (am 7), .ref (am 8), .int 0, .ref (am 10), .ref (am 11), .ref (am 12), .ref (am 13), .ref (am 14), .ref (am 15), .int 0, .ref (am 17), .ref (am 18), .ref (am 19), .ref (am 20), .int 0, .ref (am 22), .int 0, .ref (am 24), .ref (am 25), .ref (am 26), .ref (am 27), .ref (am 28), .ref (am 29), .int 0, .ref (am 31), .ref (am 32), .ref (am 33), .int 0, .ref (am 35), .int 0, .ref (am 37), .ref (am 38), .ref (am 39), .ref (am 40), .ref (am 41), .ref (am 42), .ref (am 43), .int 0, .ref (am 45), .ref (am 46), .ref (am 47), .int 0, .ref (am 49), .int 0, .ref (am 51), .int 0, .ref (am 53), .ref (am 54), .int 1, .int 0, .ref (am 57), .long 0, .ref (am 59), .ref (am 60), .long 0, .int 0, .int 0, .int 0, .int 0, .int 0, .int 0, .ref (am 68), .int 0, .int 0, .ref (am 71), .ref (am 72), .ref (am 73), .ref (am 74), .ref (am 75), .ref (am 76), .ref (am 77), .ref (am 78)])), (am 75, .inl (cs 75, 4, .inl fs)), (am 76, .inl (cs 76, 4, .inl (fun _ => (0 : Int32)))), (am 77, .inl (cs 77, 160, .inl (fun _ => (0 : Int32))))]) [6, 7, 8, 9] rfl
    have hKc := hK.sub (tys' := [(cs 75, .int), (cs 76, .int), (cs 77, .int)]) [5, 6, 7] rfl
    have hDc := hD.sub (ws' := [(hm_, .inr (12, [.int 0, .int 0, .ref (am 2), .ref (am 3), .ref (am 4), .int 0, .ref (am 6), .ref (am 7), .ref (am 8), .int 0, .ref (am 10), .ref (am 11), .ref (am 12), .ref (am 13), .ref (am 14), .ref (am 15), .int 0, .ref (am 17), .ref (am 18), .ref (am 19), .ref (am 20), .int 0, .ref (am 22), .int 0, .ref (am 24), .ref (am 25), .ref (am 26), .ref (am 27), .ref (am 28), .ref (am 29), .int 0, .ref (am 31), .ref (am 32), .ref (am 33), .int 0, .ref (am 35), .int 0, .ref (am 37), .ref (am 38), .ref (am 39), .ref (am 40), .ref (am 41), .ref (am 42), .ref (am 43), .int 0, .ref (am 45), .ref (am 46), .ref (am 47), .int 0, .ref (am 49), .int 0, .ref (am 51), .int 0, .ref (am 53), .ref (am 54), .int 1, .int 0, .ref (am 57), .long 0, .ref (am 59), .ref (am 60), .long 0, .int 0, .int 0, .int 0, .int 0, .int 0, .int 0, .ref (am 68), .int 0, .int 0, .ref (am 71), .ref (am 72), .ref (am 73), .ref (am 74), .ref (am 75), .ref (am 76), .ref (am 77), .ref (am 78)])), (am 75, .inl (cs 75, 4, .inl fs)), (am 76, .inl (cs 76, 4, .inl (fun _ => (0 : Int32)))), (am 77, .inl (cs 77, 160, .inl (fun _ => (0 : Int32))))]) [6, 7, 8, 9] (by decide) rfl
    have hFc := va_free (wc := [(hm_, .inr (12, [.int 0, .int 0, .ref (am 2), .ref (am 3), .ref (am 4), .int 0, .ref (am 6), .ref (am 7), .ref (am 8), .int 0, .ref (am 10), .ref (am 11), .ref (am 12), .ref (am 13), .ref (am 14), .ref (am 15), .int 0, .ref (am 17), .ref (am 18), .ref (am 19), .ref (am 20), .int 0, .ref (am 22), .int 0, .ref (am 24), .ref (am 25), .ref (am 26), .ref (am 27), .ref (am 28), .ref (am 29), .int 0, .ref (am 31), .ref (am 32), .ref (am 33), .int 0, .ref (am 35), .int 0, .ref (am 37), .ref (am 38), .ref (am 39), .ref (am 40), .ref (am 41), .ref (am 42), .ref (am 43), .int 0, .ref (am 45), .ref (am 46), .ref (am 47), .int 0, .ref (am 49), .int 0, .ref (am 51), .int 0, .ref (am 53), .ref (am 54), .int 1, .int 0, .ref (am 57), .long 0, .ref (am 59), .ref (am 60), .long 0, .int 0, .int 0, .int 0, .int 0, .int 0, .int 0, .ref (am 68), .int 0, .int 0, .ref (am 71), .ref (am 72), .ref (am 73), .ref (am 74), .ref (am 75), .ref (am 76), .ref (am 77), .ref (am 78)])), (am 75, .inl (cs 75, 4, .inl fs)), (am 76, .inl (cs 76, 4, .inl (fun _ => (0 : Int32)))), (am 77, .inl (cs 77, 160, .inl (fun _ => (0 : Int32))))]) hD hS hA [6, 7, 8, 9] rfl
    refine va_calli (va_runV (As := [.int (xs (1 : Int32).toNatClampNeg), .int (xs (2 : Int32).toNatClampNeg), .int (xs (3 : Int32).toNatClampNeg)]) (rest := [.int r_15]) ⟨hx, hb, hml, hown, hts⟩ (rt_X12_sheet l dC dI H.size hm_ am cs fs (fun _ => (0 : Int32)) (fun _ => (0 : Int32)) (xs (1 : Int32).toNatClampNeg) (xs (2 : Int32).toNatClampNeg) (xs (3 : Int32).toNatClampNeg)) (cwV 3 hts gL_law_X12_sheet rfl rfl rfl (by decide +kernel) ⟨Nat.le_of_ble_eq_true rfl, Nat.le_of_ble_eq_true rfl⟩) ⟨fun a U g mk q => by obtain ⟨q0, q1, qP, qK, qD⟩ := q; exact ⟨q0, q1, qP, va_K.moved (u := U) (U := U.calling g mk a) (Vm.Alike.refl U.vm) qK, qD⟩, va_recv hKc hPc (ci := 12) (q0 := 0) rfl rfl, fun U hU hW => ⟨rfl, by rw [hU], by rw [hU]; exact hPc, va_K.moved hW.alike hKc, hDc.weaken (fun _ _ _ _ => trivial)⟩⟩ rfl rfl hl.1 rfl (lv_room (Nat.le_of_ble_eq_true rfl)) dL_law_1627 ⟨by decide +kernel, by decide +kernel⟩) hS (fun q _ h => hFc q h) hFc (fun r_19 u t H1 locs ht hvm hr_19 hB hz1 hk1 hS => ?_)
    obtain ⟨⟩ := u
    have hP1 : va_P (dC, dI) vwCl [] H1 := fun k q h => by simp at h
    have hD1 : va_D (va_A [(hm_, .inr (12, [.int 0, .int 0, .ref (am 2), .ref (am 3), .ref (am 4), .int 0, .ref (am 6), .ref (am 7), .ref (am 8), .int 0, .ref (am 10), .ref (am 11), .ref (am 12), .ref (am 13), .ref (am 14), .ref (am 15), .int 0, .ref (am 17), .ref (am 18), .ref (am 19), .ref (am 20), .int 0, .ref (am 22), .int 0, .ref (am 24), .ref (am 25), .ref (am 26), .ref (am 27), .ref (am 28), .ref (am 29), .int 0, .ref (am 31), .ref (am 32), .ref (am 33), .int 0, .ref (am 35), .int 0, .ref (am 37), .ref (am 38), .ref (am 39), .ref (am 40), .ref (am 41), .ref (am 42), .ref (am 43), .int 0, .ref (am 45), .ref (am 46), .ref (am 47), .int 0, .ref (am 49), .int 0, .ref (am 51), .int 0, .ref (am 53), .ref (am 54), .int 1, .int 0, .ref (am 57), .long 0, .ref (am 59), .ref (am 60), .long 0, .int 0, .int 0, .int 0, .int 0, .int 0, .int 0, .ref (am 68), .int 0, .int 0, .ref (am 71), .ref (am 72), .ref (am 73), .ref (am 74), .ref (am 75), .ref (am 76), .ref (am 77), .ref (am 78)])), (am 75, .inl (cs 75, 4, .inl fs)), (am 76, .inl (cs 76, 4, .inl (fun _ => (0 : Int32)))), (am 77, .inl (cs 77, 160, .inl (fun _ => (0 : Int32))))] H.size) [] := ⟨fun i j p q h => by simp at h, fun k q h => by simp at h⟩
    obtain ⟨hP, hD⟩ := va_join (wr := [(sa 0, .inr (7, [.ref (ai 0), .int (-1), .int 0])), (ai 0, .inl (ci 0, 40, .inl (fun _ => (0 : Int32)))), (sa 2, .inr (7, [.ref (ai 2), .int (-1), .int 0])), (ai 2, .inl (ci 2, 40, .inl (fun _ => (0 : Int32)))), (sa 3, .inr (7, [.ref (ai 3), .int (-1), .int 0])), (ai 3, .inl (ci 3, 40, .inl (fun _ => (0 : Int32))))]) (w1 := []) hP hD [6, 7, 8, 9] [0, 1, 2, 3, 4, 5] rfl rfl (by decide) (by decide) hk1 hFc hP1 hD1
    generalize H1 = H at hP hS ⊢
    have hP : va_P (dC, dI) vwCl [(sa 0, .inr (7, [.ref (ai 0), .int (-1), .int 0])), (ai 0, .inl (ci 0, 40, .inl (fun _ => (0 : Int32)))), (sa 2, .inr (7, [.ref (ai 2), .int (-1), .int 0])), (ai 2, .inl (ci 2, 40, .inl (fun _ => (0 : Int32)))), (sa 3, .inr (7, [.ref (ai 3), .int (-1), .int 0])), (ai 3, .inl (ci 3, 40, .inl (fun _ => (0 : Int32))))] H := hP
    have hD : va_D A [(sa 0, .inr (7, [.ref (ai 0), .int (-1), .int 0])), (ai 0, .inl (ci 0, 40, .inl (fun _ => (0 : Int32)))), (sa 2, .inr (7, [.ref (ai 2), .int (-1), .int 0])), (ai 2, .inl (ci 2, 40, .inl (fun _ => (0 : Int32)))), (sa 3, .inr (7, [.ref (ai 3), .int (-1), .int 0])), (ai 3, .inl (ci 3, 40, .inl (fun _ => (0 : Int32))))] := hD
    try dsimp only at hr_19
    have hq : (r_15 : Int32) = r_19 := by
      rcases hr_15 with ⟨a0, e0⟩ | ⟨a0, e0⟩ | ⟨a0, e0⟩ | ⟨a0, e0⟩ | ⟨a0, e0⟩ <;> rcases hr_19 with ⟨a1, e1⟩ | ⟨a1, e1⟩ | ⟨a1, e1⟩ | ⟨a1, e1⟩ | ⟨a1, e1⟩ <;> first | (rw [e0, e1]; done) | (exfalso; (try simp only [fa_lt, fa_le, fa_eq, fa_lt64, fa_le64, fa_eq64, Int32.reduceToInt, Int64.reduceToInt, zi_ite] at c_4); (try simp only [fa_lt, fa_le, fa_eq, fa_lt64, fa_le64, fa_eq64, Int32.reduceToInt, Int64.reduceToInt, zi_ite] at a0); (try simp only [fa_lt, fa_le, fa_eq, fa_lt64, fa_le64, fa_eq64, Int32.reduceToInt, Int64.reduceToInt, zi_ite] at a1); omega)
    refine lv_icmp_eq (tgt := 1837) hx hb dL_law_1630 (by decide) (fun _ => ?_) (fun c9 => absurd hq c9)
    exact law_fin C0 hL6 hS (by decide +kernel) (by decide +kernel) ls (lv_sub hl [3, 2, 1, 0] rfl)
  · have hPc := hP.sub (ws' := [(hc_, .inr (11, [.ref (ad 0), .ref (ad 1), .ref (ad 2), .ref (ad 3), .ref (ad 4), .ref (ad 5), .ref (ad 6), .ref (ad 7), .ref (ad 8), .int 0, .int 0, .int 0, .int 0])), (ad 8, .inl (cd 8, 4, .inr (.inr (.inr (.inr (va_up (va_up (va_up (va_up (fun _ => none) 0 (some (sa 0))) 1 (some (sa 1))) 2 (some (sa 2))) 3 (some (sa 3)))))))), (sa 2, .inr (7, [.ref ((fun _ => ai 2) 0), .int (-1), .int 0])), ((fun _ => ai 2) 0, .inl (ci 2, 40, .inl (fun _ => (0 : Int32))))]) [0, 1, 6, 7] rfl
    have hKc := hK.sub (tys' := [(cd 8, .object RX7), (ci 2, .int)]) [0, 3] rfl
    have hDc := hD.sub (ws' := [(hc_, .inr (11, [.ref (ad 0), .ref (ad 1), .ref (ad 2), .ref (ad 3), .ref (ad 4), .ref (ad 5), .ref (ad 6), .ref (ad 7), .ref (ad 8), .int 0, .int 0, .int 0, .int 0])), (ad 8, .inl (cd 8, 4, .inr (.inr (.inr (.inr (va_up (va_up (va_up (va_up (fun _ => none) 0 (some (sa 0))) 1 (some (sa 1))) 2 (some (sa 2))) 3 (some (sa 3)))))))), (sa 2, .inr (7, [.ref ((fun _ => ai 2) 0), .int (-1), .int 0])), ((fun _ => ai 2) 0, .inl (ci 2, 40, .inl (fun _ => (0 : Int32))))]) [0, 1, 6, 7] (by decide) rfl
    have hFc := va_free (wc := [(hc_, .inr (11, [.ref (ad 0), .ref (ad 1), .ref (ad 2), .ref (ad 3), .ref (ad 4), .ref (ad 5), .ref (ad 6), .ref (ad 7), .ref (ad 8), .int 0, .int 0, .int 0, .int 0])), (ad 8, .inl (cd 8, 4, .inr (.inr (.inr (.inr (va_up (va_up (va_up (va_up (fun _ => none) 0 (some (sa 0))) 1 (some (sa 1))) 2 (some (sa 2))) 3 (some (sa 3)))))))), (sa 2, .inr (7, [.ref ((fun _ => ai 2) 0), .int (-1), .int 0])), ((fun _ => ai 2) 0, .inl (ci 2, 40, .inl (fun _ => (0 : Int32))))]) hD hS hA [0, 1, 6, 7] rfl
    refine va_calli (va_runV (As := [.int (xs (1 : Int32).toNatClampNeg), .int (xs (2 : Int32).toNatClampNeg), .int (xs (3 : Int32).toNatClampNeg)]) (rest := []) ⟨hx, hb, hml, hown, hts⟩ (rt_X11_sheetI l dC dI H.size hc_ ad (cd 8) (va_up (va_up (va_up (va_up (fun _ => none) 0 (some (sa 0))) 1 (some (sa 1))) 2 (some (sa 2))) 3 (some (sa 3))) (sa 2) (fun _ => ai 2) (ci 2) (fun _ => (0 : Int32)) (xs (1 : Int32).toNatClampNeg) (xs (2 : Int32).toNatClampNeg) (xs (3 : Int32).toNatClampNeg) (by rw [c_4]; decide) (by rw [c_4]; rfl)) (cwV 3 hts gL_law_X11_sheet rfl rfl rfl (by decide +kernel) ⟨Nat.le_of_ble_eq_true rfl, Nat.le_of_ble_eq_true rfl⟩) ⟨fun a U g mk q => by obtain ⟨q0, q1, qP, qK, qD⟩ := q; exact ⟨q0, q1, qP, va_K.moved (u := U) (U := U.calling g mk a) (Vm.Alike.refl U.vm) qK, qD⟩, va_recv hKc hPc (ci := 11) (q0 := 0) rfl rfl, fun U hU hW => ⟨rfl, by rw [hU], by rw [hU]; exact hPc, va_K.moved hW.alike hKc, hDc.weaken (fun _ _ _ _ => trivial)⟩⟩ rfl rfl hl.1 rfl (lv_room (Nat.le_of_ble_eq_true rfl)) dL_law_1608 ⟨by decide +kernel, by decide +kernel⟩) hS (fun q _ h => hFc q h) hFc (fun r_20 u t H1 locs ht hvm hr_20 hB hz1 hk1 hS => ?_)
    obtain ⟨⟩ := u
    have hP1 : va_P (dC, dI) vwCl [] H1 := fun k q h => by simp at h
    have hD1 : va_D (va_A [(hc_, .inr (11, [.ref (ad 0), .ref (ad 1), .ref (ad 2), .ref (ad 3), .ref (ad 4), .ref (ad 5), .ref (ad 6), .ref (ad 7), .ref (ad 8), .int 0, .int 0, .int 0, .int 0])), (ad 8, .inl (cd 8, 4, .inr (.inr (.inr (.inr (va_up (va_up (va_up (va_up (fun _ => none) 0 (some (sa 0))) 1 (some (sa 1))) 2 (some (sa 2))) 3 (some (sa 3)))))))), (sa 2, .inr (7, [.ref ((fun _ => ai 2) 0), .int (-1), .int 0])), ((fun _ => ai 2) 0, .inl (ci 2, 40, .inl (fun _ => (0 : Int32))))] H.size) [] := ⟨fun i j p q h => by simp at h, fun k q h => by simp at h⟩
    obtain ⟨hP, hD⟩ := va_join (wr := [(sa 0, .inr (7, [.ref (ai 0), .int (-1), .int 0])), (ai 0, .inl (ci 0, 40, .inl (fun _ => (0 : Int32)))), (sa 1, .inr (7, [.ref (ai 1), .int (-1), .int 0])), (ai 1, .inl (ci 1, 40, .inl (fun _ => (0 : Int32)))), (sa 3, .inr (7, [.ref (ai 3), .int (-1), .int 0])), (ai 3, .inl (ci 3, 40, .inl (fun _ => (0 : Int32)))), (hm_, .inr (12, [.int 0, .int 0, .ref (am 2), .ref (am 3), .ref (am 4), .int 0, .ref (am 6), .ref (am 7), .ref (am 8), .int 0, .ref (am 10), .ref (am 11), .ref (am 12), .ref (am 13), .ref (am 14), .ref (am 15), .int 0, .ref (am 17), .ref (am 18), .ref (am 19), .ref (am 20), .int 0, .ref (am 22), .int 0, .ref (am 24), .ref (am 25), .ref (am 26), .ref (am 27), .ref (am 28), .ref (am 29), .int 0, .ref (am 31), .ref (am 32), .ref (am 33), .int 0, .ref (am 35), .int 0, .ref (am 37), .ref (am 38), .ref (am 39), .ref (am 40), .ref (am 41), .ref (am 42), .ref (am 43), .int 0, .ref (am 45), .ref (am 46), .ref (am 47), .int 0, .ref (am 49), .int 0, .ref (am 51), .int 0, .ref (am 53), .ref (am 54), .int 1, .int 0, .ref (am 57), .long 0, .ref (am 59), .ref (am 60), .long 0, .int 0, .int 0, .int 0, .int 0, .int 0, .int 0, .ref (am 68), .int 0, .int 0, .ref (am 71), .ref (am 72), .ref (am 73), .ref (am 74), .ref (am 75), .ref (am 76), .ref (am 77), .ref (am 78)])), (am 75, .inl (cs 75, 4, .inl fs)), (am 76, .inl (cs 76, 4, .inl (fun _ => (0 : Int32)))), (am 77, .inl (cs 77, 160, .inl (fun _ => (0 : Int32))))]) (w1 := []) hP hD [0, 1, 6, 7] [2, 3, 4, 5, 8, 9, 10, 11, 12, 13] rfl rfl (by decide) (by decide) hk1 hFc hP1 hD1
    generalize H1 = H at hP hS ⊢
    have hP : va_P (dC, dI) vwCl [(sa 0, .inr (7, [.ref (ai 0), .int (-1), .int 0])), (ai 0, .inl (ci 0, 40, .inl (fun _ => (0 : Int32)))), (sa 1, .inr (7, [.ref (ai 1), .int (-1), .int 0])), (ai 1, .inl (ci 1, 40, .inl (fun _ => (0 : Int32)))), (sa 3, .inr (7, [.ref (ai 3), .int (-1), .int 0])), (ai 3, .inl (ci 3, 40, .inl (fun _ => (0 : Int32)))), (hm_, .inr (12, [.int 0, .int 0, .ref (am 2), .ref (am 3), .ref (am 4), .int 0, .ref (am 6), .ref (am 7), .ref (am 8), .int 0, .ref (am 10), .ref (am 11), .ref (am 12), .ref (am 13), .ref (am 14), .ref (am 15), .int 0, .ref (am 17), .ref (am 18), .ref (am 19), .ref (am 20), .int 0, .ref (am 22), .int 0, .ref (am 24), .ref (am 25), .ref (am 26), .ref (am 27), .ref (am 28), .ref (am 29), .int 0, .ref (am 31), .ref (am 32), .ref (am 33), .int 0, .ref (am 35), .int 0, .ref (am 37), .ref (am 38), .ref (am 39), .ref (am 40), .ref (am 41), .ref (am 42), .ref (am 43), .int 0, .ref (am 45), .ref (am 46), .ref (am 47), .int 0, .ref (am 49), .int 0, .ref (am 51), .int 0, .ref (am 53), .ref (am 54), .int 1, .int 0, .ref (am 57), .long 0, .ref (am 59), .ref (am 60), .long 0, .int 0, .int 0, .int 0, .int 0, .int 0, .int 0, .ref (am 68), .int 0, .int 0, .ref (am 71), .ref (am 72), .ref (am 73), .ref (am 74), .ref (am 75), .ref (am 76), .ref (am 77), .ref (am 78)])), (am 75, .inl (cs 75, 4, .inl fs)), (am 76, .inl (cs 76, 4, .inl (fun _ => (0 : Int32)))), (am 77, .inl (cs 77, 160, .inl (fun _ => (0 : Int32))))] H := hP
    have hD : va_D A [(sa 0, .inr (7, [.ref (ai 0), .int (-1), .int 0])), (ai 0, .inl (ci 0, 40, .inl (fun _ => (0 : Int32)))), (sa 1, .inr (7, [.ref (ai 1), .int (-1), .int 0])), (ai 1, .inl (ci 1, 40, .inl (fun _ => (0 : Int32)))), (sa 3, .inr (7, [.ref (ai 3), .int (-1), .int 0])), (ai 3, .inl (ci 3, 40, .inl (fun _ => (0 : Int32)))), (hm_, .inr (12, [.int 0, .int 0, .ref (am 2), .ref (am 3), .ref (am 4), .int 0, .ref (am 6), .ref (am 7), .ref (am 8), .int 0, .ref (am 10), .ref (am 11), .ref (am 12), .ref (am 13), .ref (am 14), .ref (am 15), .int 0, .ref (am 17), .ref (am 18), .ref (am 19), .ref (am 20), .int 0, .ref (am 22), .int 0, .ref (am 24), .ref (am 25), .ref (am 26), .ref (am 27), .ref (am 28), .ref (am 29), .int 0, .ref (am 31), .ref (am 32), .ref (am 33), .int 0, .ref (am 35), .int 0, .ref (am 37), .ref (am 38), .ref (am 39), .ref (am 40), .ref (am 41), .ref (am 42), .ref (am 43), .int 0, .ref (am 45), .ref (am 46), .ref (am 47), .int 0, .ref (am 49), .int 0, .ref (am 51), .int 0, .ref (am 53), .ref (am 54), .int 1, .int 0, .ref (am 57), .long 0, .ref (am 59), .ref (am 60), .long 0, .int 0, .int 0, .int 0, .int 0, .int 0, .int 0, .ref (am 68), .int 0, .int 0, .ref (am 71), .ref (am 72), .ref (am 73), .ref (am 74), .ref (am 75), .ref (am 76), .ref (am 77), .ref (am 78)])), (am 75, .inl (cs 75, 4, .inl fs)), (am 76, .inl (cs 76, 4, .inl (fun _ => (0 : Int32)))), (am 77, .inl (cs 77, 160, .inl (fun _ => (0 : Int32))))] := hD
    try dsimp only at hr_20
    refine lv_aload_n hx hb dL_law_1611 rfl (lv_at hl 1 rfl) ?_
    refine lv_aload_n hx hb dL_law_1612 rfl (lv_at hl 3 rfl) ?_
    refine lv_iload_n hx hb dL_law_1613 rfl (lv_at hl 0 rfl) ?_
    refine lv_iconst (v := 1) hx hb dL_law_1614 (by decide) ?_
    refine lv_iadd hx hb dL_law_1615 ?_
    refine lv_topi (fun y_21 ey_21 => ?_)
    obtain rfl : y_21 = 1 := ey_21.trans (by decide)
    refine va_sld hx hb hX hbl hbA hS (by rw [hL6]; unfold vp_in; decide) dL_law_1616 ?_
    refine lv_aload_n hx hb dL_law_1617 rfl (lv_at hl 3 rfl) ?_
    refine lv_iload_n hx hb dL_law_1618 rfl (lv_at hl 0 rfl) ?_
    refine lv_iconst (v := 2) hx hb dL_law_1619 (by decide) ?_
    refine lv_iadd hx hb dL_law_1620 ?_
    refine lv_topi (fun y_22 ey_22 => ?_)
    obtain rfl : y_22 = 2 := ey_22.trans (by decide)
    refine va_sld hx hb hX hbl hbA hS (by rw [hL6]; unfold vp_in; decide) dL_law_1621 ?_
    refine lv_aload_n hx hb dL_law_1622 rfl (lv_at hl 3 rfl) ?_
    refine lv_iload_n hx hb dL_law_1623 rfl (lv_at hl 0 rfl) ?_
    refine lv_iconst (v := 3) hx hb dL_law_1624 (by decide) ?_
    refine lv_iadd hx hb dL_law_1625 ?_
    refine lv_topi (fun y_23 ey_23 => ?_)
    obtain rfl : y_23 = 3 := ey_23.trans (by decide)
    refine va_sld hx hb hX hbl hbA hS (by rw [hL6]; unfold vp_in; decide) dL_law_1626 ?_
    have hPc := hP.sub (ws' := [(hm_, .inr (12, [.int 0, .int 0, .ref (am 2), .ref (am 3), .ref (am 4), .int 0, .ref (am 6), .ref (am 7), .ref (am 8), .int 0, .ref (am 10), .ref (am 11), .ref (am 12), .ref (am 13), .ref (am 14), .ref (am 15), .int 0, .ref (am 17), .ref (am 18), .ref (am 19), .ref (am 20), .int 0, .ref (am 22), .int 0, .ref (am 24), .ref (am 25), .ref (am 26), .ref (am 27), .ref (am 28), .ref (am 29), .int 0, .ref (am 31), .ref (am 32), .ref (am 33), .int 0, .ref (am 35), .int 0, .ref (am 37), .ref (am 38), .ref (am 39), .ref (am 40), .ref (am 41), .ref (am 42), .ref (am 43), .int 0, .ref (am 45), .ref (am 46), .ref (am 47), .int 0, .ref (am 49), .int 0, .ref (am 51), .int 0, .ref (am 53), .ref (am 54), .int 1, .int 0, .ref (am 57), .long 0, .ref (am 59), .ref (am 60), .long 0, .int 0, .int 0, .int 0, .int 0, .int 0, .int 0, .ref (am 68), .int 0, .int 0, .ref (am 71), .ref (am 72), .ref (am 73), .ref (am 74), .ref (am 75), .ref (am 76), .ref (am 77), .ref (am 78)])), (am 75, .inl (cs 75, 4, .inl fs)), (am 76, .inl (cs 76, 4, .inl (fun _ => (0 : Int32)))), (am 77, .inl (cs 77, 160, .inl (fun _ => (0 : Int32))))]) [6, 7, 8, 9] rfl
    have hKc := hK.sub (tys' := [(cs 75, .int), (cs 76, .int), (cs 77, .int)]) [5, 6, 7] rfl
    have hDc := hD.sub (ws' := [(hm_, .inr (12, [.int 0, .int 0, .ref (am 2), .ref (am 3), .ref (am 4), .int 0, .ref (am 6), .ref (am 7), .ref (am 8), .int 0, .ref (am 10), .ref (am 11), .ref (am 12), .ref (am 13), .ref (am 14), .ref (am 15), .int 0, .ref (am 17), .ref (am 18), .ref (am 19), .ref (am 20), .int 0, .ref (am 22), .int 0, .ref (am 24), .ref (am 25), .ref (am 26), .ref (am 27), .ref (am 28), .ref (am 29), .int 0, .ref (am 31), .ref (am 32), .ref (am 33), .int 0, .ref (am 35), .int 0, .ref (am 37), .ref (am 38), .ref (am 39), .ref (am 40), .ref (am 41), .ref (am 42), .ref (am 43), .int 0, .ref (am 45), .ref (am 46), .ref (am 47), .int 0, .ref (am 49), .int 0, .ref (am 51), .int 0, .ref (am 53), .ref (am 54), .int 1, .int 0, .ref (am 57), .long 0, .ref (am 59), .ref (am 60), .long 0, .int 0, .int 0, .int 0, .int 0, .int 0, .int 0, .ref (am 68), .int 0, .int 0, .ref (am 71), .ref (am 72), .ref (am 73), .ref (am 74), .ref (am 75), .ref (am 76), .ref (am 77), .ref (am 78)])), (am 75, .inl (cs 75, 4, .inl fs)), (am 76, .inl (cs 76, 4, .inl (fun _ => (0 : Int32)))), (am 77, .inl (cs 77, 160, .inl (fun _ => (0 : Int32))))]) [6, 7, 8, 9] (by decide) rfl
    have hFc := va_free (wc := [(hm_, .inr (12, [.int 0, .int 0, .ref (am 2), .ref (am 3), .ref (am 4), .int 0, .ref (am 6), .ref (am 7), .ref (am 8), .int 0, .ref (am 10), .ref (am 11), .ref (am 12), .ref (am 13), .ref (am 14), .ref (am 15), .int 0, .ref (am 17), .ref (am 18), .ref (am 19), .ref (am 20), .int 0, .ref (am 22), .int 0, .ref (am 24), .ref (am 25), .ref (am 26), .ref (am 27), .ref (am 28), .ref (am 29), .int 0, .ref (am 31), .ref (am 32), .ref (am 33), .int 0, .ref (am 35), .int 0, .ref (am 37), .ref (am 38), .ref (am 39), .ref (am 40), .ref (am 41), .ref (am 42), .ref (am 43), .int 0, .ref (am 45), .ref (am 46), .ref (am 47), .int 0, .ref (am 49), .int 0, .ref (am 51), .int 0, .ref (am 53), .ref (am 54), .int 1, .int 0, .ref (am 57), .long 0, .ref (am 59), .ref (am 60), .long 0, .int 0, .int 0, .int 0, .int 0, .int 0, .int 0, .ref (am 68), .int 0, .int 0, .ref (am 71), .ref (am 72), .ref (am 73), .ref (am 74), .ref (am 75), .ref (am 76), .ref (am 77), .ref (am 78)])), (am 75, .inl (cs 75, 4, .inl fs)), (am 76, .inl (cs 76, 4, .inl (fun _ => (0 : Int32)))), (am 77, .inl (cs 77, 160, .inl (fun _ => (0 : Int32))))]) hD hS hA [6, 7, 8, 9] rfl
    refine va_calli (va_runV (As := [.int (xs (1 : Int32).toNatClampNeg), .int (xs (2 : Int32).toNatClampNeg), .int (xs (3 : Int32).toNatClampNeg)]) (rest := [.int r_20]) ⟨hx, hb, hml, hown, hts⟩ (rt_X12_sheet l dC dI H.size hm_ am cs fs (fun _ => (0 : Int32)) (fun _ => (0 : Int32)) (xs (1 : Int32).toNatClampNeg) (xs (2 : Int32).toNatClampNeg) (xs (3 : Int32).toNatClampNeg)) (cwV 3 hts gL_law_X12_sheet rfl rfl rfl (by decide +kernel) ⟨Nat.le_of_ble_eq_true rfl, Nat.le_of_ble_eq_true rfl⟩) ⟨fun a U g mk q => by obtain ⟨q0, q1, qP, qK, qD⟩ := q; exact ⟨q0, q1, qP, va_K.moved (u := U) (U := U.calling g mk a) (Vm.Alike.refl U.vm) qK, qD⟩, va_recv hKc hPc (ci := 12) (q0 := 0) rfl rfl, fun U hU hW => ⟨rfl, by rw [hU], by rw [hU]; exact hPc, va_K.moved hW.alike hKc, hDc.weaken (fun _ _ _ _ => trivial)⟩⟩ rfl rfl hl.1 rfl (lv_room (Nat.le_of_ble_eq_true rfl)) dL_law_1627 ⟨by decide +kernel, by decide +kernel⟩) hS (fun q _ h => hFc q h) hFc (fun r_24 u t H1 locs ht hvm hr_24 hB hz1 hk1 hS => ?_)
    obtain ⟨⟩ := u
    have hP1 : va_P (dC, dI) vwCl [] H1 := fun k q h => by simp at h
    have hD1 : va_D (va_A [(hm_, .inr (12, [.int 0, .int 0, .ref (am 2), .ref (am 3), .ref (am 4), .int 0, .ref (am 6), .ref (am 7), .ref (am 8), .int 0, .ref (am 10), .ref (am 11), .ref (am 12), .ref (am 13), .ref (am 14), .ref (am 15), .int 0, .ref (am 17), .ref (am 18), .ref (am 19), .ref (am 20), .int 0, .ref (am 22), .int 0, .ref (am 24), .ref (am 25), .ref (am 26), .ref (am 27), .ref (am 28), .ref (am 29), .int 0, .ref (am 31), .ref (am 32), .ref (am 33), .int 0, .ref (am 35), .int 0, .ref (am 37), .ref (am 38), .ref (am 39), .ref (am 40), .ref (am 41), .ref (am 42), .ref (am 43), .int 0, .ref (am 45), .ref (am 46), .ref (am 47), .int 0, .ref (am 49), .int 0, .ref (am 51), .int 0, .ref (am 53), .ref (am 54), .int 1, .int 0, .ref (am 57), .long 0, .ref (am 59), .ref (am 60), .long 0, .int 0, .int 0, .int 0, .int 0, .int 0, .int 0, .ref (am 68), .int 0, .int 0, .ref (am 71), .ref (am 72), .ref (am 73), .ref (am 74), .ref (am 75), .ref (am 76), .ref (am 77), .ref (am 78)])), (am 75, .inl (cs 75, 4, .inl fs)), (am 76, .inl (cs 76, 4, .inl (fun _ => (0 : Int32)))), (am 77, .inl (cs 77, 160, .inl (fun _ => (0 : Int32))))] H.size) [] := ⟨fun i j p q h => by simp at h, fun k q h => by simp at h⟩
    obtain ⟨hP, hD⟩ := va_join (wr := [(sa 0, .inr (7, [.ref (ai 0), .int (-1), .int 0])), (ai 0, .inl (ci 0, 40, .inl (fun _ => (0 : Int32)))), (sa 1, .inr (7, [.ref (ai 1), .int (-1), .int 0])), (ai 1, .inl (ci 1, 40, .inl (fun _ => (0 : Int32)))), (sa 3, .inr (7, [.ref (ai 3), .int (-1), .int 0])), (ai 3, .inl (ci 3, 40, .inl (fun _ => (0 : Int32))))]) (w1 := []) hP hD [6, 7, 8, 9] [0, 1, 2, 3, 4, 5] rfl rfl (by decide) (by decide) hk1 hFc hP1 hD1
    generalize H1 = H at hP hS ⊢
    have hP : va_P (dC, dI) vwCl [(sa 0, .inr (7, [.ref (ai 0), .int (-1), .int 0])), (ai 0, .inl (ci 0, 40, .inl (fun _ => (0 : Int32)))), (sa 1, .inr (7, [.ref (ai 1), .int (-1), .int 0])), (ai 1, .inl (ci 1, 40, .inl (fun _ => (0 : Int32)))), (sa 3, .inr (7, [.ref (ai 3), .int (-1), .int 0])), (ai 3, .inl (ci 3, 40, .inl (fun _ => (0 : Int32))))] H := hP
    have hD : va_D A [(sa 0, .inr (7, [.ref (ai 0), .int (-1), .int 0])), (ai 0, .inl (ci 0, 40, .inl (fun _ => (0 : Int32)))), (sa 1, .inr (7, [.ref (ai 1), .int (-1), .int 0])), (ai 1, .inl (ci 1, 40, .inl (fun _ => (0 : Int32)))), (sa 3, .inr (7, [.ref (ai 3), .int (-1), .int 0])), (ai 3, .inl (ci 3, 40, .inl (fun _ => (0 : Int32))))] := hD
    try dsimp only at hr_24
    have hq : (r_20 : Int32) = r_24 := by
      rcases hr_20 with ⟨a0, e0⟩ | ⟨a0, e0⟩ | ⟨a0, e0⟩ | ⟨a0, e0⟩ | ⟨a0, e0⟩ <;> rcases hr_24 with ⟨a1, e1⟩ | ⟨a1, e1⟩ | ⟨a1, e1⟩ | ⟨a1, e1⟩ | ⟨a1, e1⟩ <;> first | (rw [e0, e1]; done) | (exfalso; (try simp only [fa_lt, fa_le, fa_eq, fa_lt64, fa_le64, fa_eq64, Int32.reduceToInt, Int64.reduceToInt, zi_ite] at c_4); (try simp only [fa_lt, fa_le, fa_eq, fa_lt64, fa_le64, fa_eq64, Int32.reduceToInt, Int64.reduceToInt, zi_ite] at a0); (try simp only [fa_lt, fa_le, fa_eq, fa_lt64, fa_le64, fa_eq64, Int32.reduceToInt, Int64.reduceToInt, zi_ite] at a1); omega)
    refine lv_icmp_eq (tgt := 1837) hx hb dL_law_1630 (by decide) (fun _ => ?_) (fun c9 => absurd hq c9)
    exact law_fin C0 hL6 hS (by decide +kernel) (by decide +kernel) ls (lv_sub hl [3, 2, 1, 0] rfl)
  · have hPc := hP.sub (ws' := [(hc_, .inr (11, [.ref (ad 0), .ref (ad 1), .ref (ad 2), .ref (ad 3), .ref (ad 4), .ref (ad 5), .ref (ad 6), .ref (ad 7), .ref (ad 8), .int 0, .int 0, .int 0, .int 0])), (ad 8, .inl (cd 8, 4, .inr (.inr (.inr (.inr (va_up (va_up (va_up (va_up (fun _ => none) 0 (some (sa 0))) 1 (some (sa 1))) 2 (some (sa 2))) 3 (some (sa 3)))))))), (sa 3, .inr (7, [.ref ((fun _ => ai 3) 0), .int (-1), .int 0])), ((fun _ => ai 3) 0, .inl (ci 3, 40, .inl (fun _ => (0 : Int32))))]) [0, 1, 8, 9] rfl
    have hKc := hK.sub (tys' := [(cd 8, .object RX7), (ci 3, .int)]) [0, 4] rfl
    have hDc := hD.sub (ws' := [(hc_, .inr (11, [.ref (ad 0), .ref (ad 1), .ref (ad 2), .ref (ad 3), .ref (ad 4), .ref (ad 5), .ref (ad 6), .ref (ad 7), .ref (ad 8), .int 0, .int 0, .int 0, .int 0])), (ad 8, .inl (cd 8, 4, .inr (.inr (.inr (.inr (va_up (va_up (va_up (va_up (fun _ => none) 0 (some (sa 0))) 1 (some (sa 1))) 2 (some (sa 2))) 3 (some (sa 3)))))))), (sa 3, .inr (7, [.ref ((fun _ => ai 3) 0), .int (-1), .int 0])), ((fun _ => ai 3) 0, .inl (ci 3, 40, .inl (fun _ => (0 : Int32))))]) [0, 1, 8, 9] (by decide) rfl
    have hFc := va_free (wc := [(hc_, .inr (11, [.ref (ad 0), .ref (ad 1), .ref (ad 2), .ref (ad 3), .ref (ad 4), .ref (ad 5), .ref (ad 6), .ref (ad 7), .ref (ad 8), .int 0, .int 0, .int 0, .int 0])), (ad 8, .inl (cd 8, 4, .inr (.inr (.inr (.inr (va_up (va_up (va_up (va_up (fun _ => none) 0 (some (sa 0))) 1 (some (sa 1))) 2 (some (sa 2))) 3 (some (sa 3)))))))), (sa 3, .inr (7, [.ref ((fun _ => ai 3) 0), .int (-1), .int 0])), ((fun _ => ai 3) 0, .inl (ci 3, 40, .inl (fun _ => (0 : Int32))))]) hD hS hA [0, 1, 8, 9] rfl
    refine va_calli (va_runV (As := [.int (xs (1 : Int32).toNatClampNeg), .int (xs (2 : Int32).toNatClampNeg), .int (xs (3 : Int32).toNatClampNeg)]) (rest := []) ⟨hx, hb, hml, hown, hts⟩ (rt_X11_sheetI l dC dI H.size hc_ ad (cd 8) (va_up (va_up (va_up (va_up (fun _ => none) 0 (some (sa 0))) 1 (some (sa 1))) 2 (some (sa 2))) 3 (some (sa 3))) (sa 3) (fun _ => ai 3) (ci 3) (fun _ => (0 : Int32)) (xs (1 : Int32).toNatClampNeg) (xs (2 : Int32).toNatClampNeg) (xs (3 : Int32).toNatClampNeg) (by rw [c_4]; decide) (by rw [c_4]; rfl)) (cwV 3 hts gL_law_X11_sheet rfl rfl rfl (by decide +kernel) ⟨Nat.le_of_ble_eq_true rfl, Nat.le_of_ble_eq_true rfl⟩) ⟨fun a U g mk q => by obtain ⟨q0, q1, qP, qK, qD⟩ := q; exact ⟨q0, q1, qP, va_K.moved (u := U) (U := U.calling g mk a) (Vm.Alike.refl U.vm) qK, qD⟩, va_recv hKc hPc (ci := 11) (q0 := 0) rfl rfl, fun U hU hW => ⟨rfl, by rw [hU], by rw [hU]; exact hPc, va_K.moved hW.alike hKc, hDc.weaken (fun _ _ _ _ => trivial)⟩⟩ rfl rfl hl.1 rfl (lv_room (Nat.le_of_ble_eq_true rfl)) dL_law_1608 ⟨by decide +kernel, by decide +kernel⟩) hS (fun q _ h => hFc q h) hFc (fun r_25 u t H1 locs ht hvm hr_25 hB hz1 hk1 hS => ?_)
    obtain ⟨⟩ := u
    have hP1 : va_P (dC, dI) vwCl [] H1 := fun k q h => by simp at h
    have hD1 : va_D (va_A [(hc_, .inr (11, [.ref (ad 0), .ref (ad 1), .ref (ad 2), .ref (ad 3), .ref (ad 4), .ref (ad 5), .ref (ad 6), .ref (ad 7), .ref (ad 8), .int 0, .int 0, .int 0, .int 0])), (ad 8, .inl (cd 8, 4, .inr (.inr (.inr (.inr (va_up (va_up (va_up (va_up (fun _ => none) 0 (some (sa 0))) 1 (some (sa 1))) 2 (some (sa 2))) 3 (some (sa 3)))))))), (sa 3, .inr (7, [.ref ((fun _ => ai 3) 0), .int (-1), .int 0])), ((fun _ => ai 3) 0, .inl (ci 3, 40, .inl (fun _ => (0 : Int32))))] H.size) [] := ⟨fun i j p q h => by simp at h, fun k q h => by simp at h⟩
    obtain ⟨hP, hD⟩ := va_join (wr := [(sa 0, .inr (7, [.ref (ai 0), .int (-1), .int 0])), (ai 0, .inl (ci 0, 40, .inl (fun _ => (0 : Int32)))), (sa 1, .inr (7, [.ref (ai 1), .int (-1), .int 0])), (ai 1, .inl (ci 1, 40, .inl (fun _ => (0 : Int32)))), (sa 2, .inr (7, [.ref (ai 2), .int (-1), .int 0])), (ai 2, .inl (ci 2, 40, .inl (fun _ => (0 : Int32)))), (hm_, .inr (12, [.int 0, .int 0, .ref (am 2), .ref (am 3), .ref (am 4), .int 0, .ref (am 6), .ref (am 7), .ref (am 8), .int 0, .ref (am 10), .ref (am 11), .ref (am 12), .ref (am 13), .ref (am 14), .ref (am 15), .int 0, .ref (am 17), .ref (am 18), .ref (am 19), .ref (am 20), .int 0, .ref (am 22), .int 0, .ref (am 24), .ref (am 25), .ref (am 26), .ref (am 27), .ref (am 28), .ref (am 29), .int 0, .ref (am 31), .ref (am 32), .ref (am 33), .int 0, .ref (am 35), .int 0, .ref (am 37), .ref (am 38), .ref (am 39), .ref (am 40), .ref (am 41), .ref (am 42), .ref (am 43), .int 0, .ref (am 45), .ref (am 46), .ref (am 47), .int 0, .ref (am 49), .int 0, .ref (am 51), .int 0, .ref (am 53), .ref (am 54), .int 1, .int 0, .ref (am 57), .long 0, .ref (am 59), .ref (am 60), .long 0, .int 0, .int 0, .int 0, .int 0, .int 0, .int 0, .ref (am 68), .int 0, .int 0, .ref (am 71), .ref (am 72), .ref (am 73), .ref (am 74), .ref (am 75), .ref (am 76), .ref (am 77), .ref (am 78)])), (am 75, .inl (cs 75, 4, .inl fs)), (am 76, .inl (cs 76, 4, .inl (fun _ => (0 : Int32)))), (am 77, .inl (cs 77, 160, .inl (fun _ => (0 : Int32))))]) (w1 := []) hP hD [0, 1, 8, 9] [2, 3, 4, 5, 6, 7, 10, 11, 12, 13] rfl rfl (by decide) (by decide) hk1 hFc hP1 hD1
    generalize H1 = H at hP hS ⊢
    have hP : va_P (dC, dI) vwCl [(sa 0, .inr (7, [.ref (ai 0), .int (-1), .int 0])), (ai 0, .inl (ci 0, 40, .inl (fun _ => (0 : Int32)))), (sa 1, .inr (7, [.ref (ai 1), .int (-1), .int 0])), (ai 1, .inl (ci 1, 40, .inl (fun _ => (0 : Int32)))), (sa 2, .inr (7, [.ref (ai 2), .int (-1), .int 0])), (ai 2, .inl (ci 2, 40, .inl (fun _ => (0 : Int32)))), (hm_, .inr (12, [.int 0, .int 0, .ref (am 2), .ref (am 3), .ref (am 4), .int 0, .ref (am 6), .ref (am 7), .ref (am 8), .int 0, .ref (am 10), .ref (am 11), .ref (am 12), .ref (am 13), .ref (am 14), .ref (am 15), .int 0, .ref (am 17), .ref (am 18), .ref (am 19), .ref (am 20), .int 0, .ref (am 22), .int 0, .ref (am 24), .ref (am 25), .ref (am 26), .ref (am 27), .ref (am 28), .ref (am 29), .int 0, .ref (am 31), .ref (am 32), .ref (am 33), .int 0, .ref (am 35), .int 0, .ref (am 37), .ref (am 38), .ref (am 39), .ref (am 40), .ref (am 41), .ref (am 42), .ref (am 43), .int 0, .ref (am 45), .ref (am 46), .ref (am 47), .int 0, .ref (am 49), .int 0, .ref (am 51), .int 0, .ref (am 53), .ref (am 54), .int 1, .int 0, .ref (am 57), .long 0, .ref (am 59), .ref (am 60), .long 0, .int 0, .int 0, .int 0, .int 0, .int 0, .int 0, .ref (am 68), .int 0, .int 0, .ref (am 71), .ref (am 72), .ref (am 73), .ref (am 74), .ref (am 75), .ref (am 76), .ref (am 77), .ref (am 78)])), (am 75, .inl (cs 75, 4, .inl fs)), (am 76, .inl (cs 76, 4, .inl (fun _ => (0 : Int32)))), (am 77, .inl (cs 77, 160, .inl (fun _ => (0 : Int32))))] H := hP
    have hD : va_D A [(sa 0, .inr (7, [.ref (ai 0), .int (-1), .int 0])), (ai 0, .inl (ci 0, 40, .inl (fun _ => (0 : Int32)))), (sa 1, .inr (7, [.ref (ai 1), .int (-1), .int 0])), (ai 1, .inl (ci 1, 40, .inl (fun _ => (0 : Int32)))), (sa 2, .inr (7, [.ref (ai 2), .int (-1), .int 0])), (ai 2, .inl (ci 2, 40, .inl (fun _ => (0 : Int32)))), (hm_, .inr (12, [.int 0, .int 0, .ref (am 2), .ref (am 3), .ref (am 4), .int 0, .ref (am 6), .ref (am 7), .ref (am 8), .int 0, .ref (am 10), .ref (am 11), .ref (am 12), .ref (am 13), .ref (am 14), .ref (am 15), .int 0, .ref (am 17), .ref (am 18), .ref (am 19), .ref (am 20), .int 0, .ref (am 22), .int 0, .ref (am 24), .ref (am 25), .ref (am 26), .ref (am 27), .ref (am 28), .ref (am 29), .int 0, .ref (am 31), .ref (am 32), .ref (am 33), .int 0, .ref (am 35), .int 0, .ref (am 37), .ref (am 38), .ref (am 39), .ref (am 40), .ref (am 41), .ref (am 42), .ref (am 43), .int 0, .ref (am 45), .ref (am 46), .ref (am 47), .int 0, .ref (am 49), .int 0, .ref (am 51), .int 0, .ref (am 53), .ref (am 54), .int 1, .int 0, .ref (am 57), .long 0, .ref (am 59), .ref (am 60), .long 0, .int 0, .int 0, .int 0, .int 0, .int 0, .int 0, .ref (am 68), .int 0, .int 0, .ref (am 71), .ref (am 72), .ref (am 73), .ref (am 74), .ref (am 75), .ref (am 76), .ref (am 77), .ref (am 78)])), (am 75, .inl (cs 75, 4, .inl fs)), (am 76, .inl (cs 76, 4, .inl (fun _ => (0 : Int32)))), (am 77, .inl (cs 77, 160, .inl (fun _ => (0 : Int32))))] := hD
    try dsimp only at hr_25
    refine lv_aload_n hx hb dL_law_1611 rfl (lv_at hl 1 rfl) ?_
    refine lv_aload_n hx hb dL_law_1612 rfl (lv_at hl 3 rfl) ?_
    refine lv_iload_n hx hb dL_law_1613 rfl (lv_at hl 0 rfl) ?_
    refine lv_iconst (v := 1) hx hb dL_law_1614 (by decide) ?_
    refine lv_iadd hx hb dL_law_1615 ?_
    refine lv_topi (fun y_26 ey_26 => ?_)
    obtain rfl : y_26 = 1 := ey_26.trans (by decide)
    refine va_sld hx hb hX hbl hbA hS (by rw [hL6]; unfold vp_in; decide) dL_law_1616 ?_
    refine lv_aload_n hx hb dL_law_1617 rfl (lv_at hl 3 rfl) ?_
    refine lv_iload_n hx hb dL_law_1618 rfl (lv_at hl 0 rfl) ?_
    refine lv_iconst (v := 2) hx hb dL_law_1619 (by decide) ?_
    refine lv_iadd hx hb dL_law_1620 ?_
    refine lv_topi (fun y_27 ey_27 => ?_)
    obtain rfl : y_27 = 2 := ey_27.trans (by decide)
    refine va_sld hx hb hX hbl hbA hS (by rw [hL6]; unfold vp_in; decide) dL_law_1621 ?_
    refine lv_aload_n hx hb dL_law_1622 rfl (lv_at hl 3 rfl) ?_
    refine lv_iload_n hx hb dL_law_1623 rfl (lv_at hl 0 rfl) ?_
    refine lv_iconst (v := 3) hx hb dL_law_1624 (by decide) ?_
    refine lv_iadd hx hb dL_law_1625 ?_
    refine lv_topi (fun y_28 ey_28 => ?_)
    obtain rfl : y_28 = 3 := ey_28.trans (by decide)
    refine va_sld hx hb hX hbl hbA hS (by rw [hL6]; unfold vp_in; decide) dL_law_1626 ?_
    have hPc := hP.sub (ws' := [(hm_, .inr (12, [.int 0, .int 0, .ref (am 2), .ref (am 3), .ref (am 4), .int 0, .ref (am 6), .ref (am 7), .ref (am 8), .int 0, .ref (am 10), .ref (am 11), .ref (am 12), .ref (am 13), .ref (am 14), .ref (am 15), .int 0, .ref (am 17), .ref (am 18), .ref (am 19), .ref (am 20), .int 0, .ref (am 22), .int 0, .ref (am 24), .ref (am 25), .ref (am 26), .ref (am 27), .ref (am 28), .ref (am 29), .int 0, .ref (am 31), .ref (am 32), .ref (am 33), .int 0, .ref (am 35), .int 0, .ref (am 37), .ref (am 38), .ref (am 39), .ref (am 40), .ref (am 41), .ref (am 42), .ref (am 43), .int 0, .ref (am 45), .ref (am 46), .ref (am 47), .int 0, .ref (am 49), .int 0, .ref (am 51), .int 0, .ref (am 53), .ref (am 54), .int 1, .int 0, .ref (am 57), .long 0, .ref (am 59), .ref (am 60), .long 0, .int 0, .int 0, .int 0, .int 0, .int 0, .int 0, .ref (am 68), .int 0, .int 0, .ref (am 71), .ref (am 72), .ref (am 73), .ref (am 74), .ref (am 75), .ref (am 76), .ref (am 77), .ref (am 78)])), (am 75, .inl (cs 75, 4, .inl fs)), (am 76, .inl (cs 76, 4, .inl (fun _ => (0 : Int32)))), (am 77, .inl (cs 77, 160, .inl (fun _ => (0 : Int32))))]) [6, 7, 8, 9] rfl
    have hKc := hK.sub (tys' := [(cs 75, .int), (cs 76, .int), (cs 77, .int)]) [5, 6, 7] rfl
    have hDc := hD.sub (ws' := [(hm_, .inr (12, [.int 0, .int 0, .ref (am 2), .ref (am 3), .ref (am 4), .int 0, .ref (am 6), .ref (am 7), .ref (am 8), .int 0, .ref (am 10), .ref (am 11), .ref (am 12), .ref (am 13), .ref (am 14), .ref (am 15), .int 0, .ref (am 17), .ref (am 18), .ref (am 19), .ref (am 20), .int 0, .ref (am 22), .int 0, .ref (am 24), .ref (am 25), .ref (am 26), .ref (am 27), .ref (am 28), .ref (am 29), .int 0, .ref (am 31), .ref (am 32), .ref (am 33), .int 0, .ref (am 35), .int 0, .ref (am 37), .ref (am 38), .ref (am 39), .ref (am 40), .ref (am 41), .ref (am 42), .ref (am 43), .int 0, .ref (am 45), .ref (am 46), .ref (am 47), .int 0, .ref (am 49), .int 0, .ref (am 51), .int 0, .ref (am 53), .ref (am 54), .int 1, .int 0, .ref (am 57), .long 0, .ref (am 59), .ref (am 60), .long 0, .int 0, .int 0, .int 0, .int 0, .int 0, .int 0, .ref (am 68), .int 0, .int 0, .ref (am 71), .ref (am 72), .ref (am 73), .ref (am 74), .ref (am 75), .ref (am 76), .ref (am 77), .ref (am 78)])), (am 75, .inl (cs 75, 4, .inl fs)), (am 76, .inl (cs 76, 4, .inl (fun _ => (0 : Int32)))), (am 77, .inl (cs 77, 160, .inl (fun _ => (0 : Int32))))]) [6, 7, 8, 9] (by decide) rfl
    have hFc := va_free (wc := [(hm_, .inr (12, [.int 0, .int 0, .ref (am 2), .ref (am 3), .ref (am 4), .int 0, .ref (am 6), .ref (am 7), .ref (am 8), .int 0, .ref (am 10), .ref (am 11), .ref (am 12), .ref (am 13), .ref (am 14), .ref (am 15), .int 0, .ref (am 17), .ref (am 18), .ref (am 19), .ref (am 20), .int 0, .ref (am 22), .int 0, .ref (am 24), .ref (am 25), .ref (am 26), .ref (am 27), .ref (am 28), .ref (am 29), .int 0, .ref (am 31), .ref (am 32), .ref (am 33), .int 0, .ref (am 35), .int 0, .ref (am 37), .ref (am 38), .ref (am 39), .ref (am 40), .ref (am 41), .ref (am 42), .ref (am 43), .int 0, .ref (am 45), .ref (am 46), .ref (am 47), .int 0, .ref (am 49), .int 0, .ref (am 51), .int 0, .ref (am 53), .ref (am 54), .int 1, .int 0, .ref (am 57), .long 0, .ref (am 59), .ref (am 60), .long 0, .int 0, .int 0, .int 0, .int 0, .int 0, .int 0, .ref (am 68), .int 0, .int 0, .ref (am 71), .ref (am 72), .ref (am 73), .ref (am 74), .ref (am 75), .ref (am 76), .ref (am 77), .ref (am 78)])), (am 75, .inl (cs 75, 4, .inl fs)), (am 76, .inl (cs 76, 4, .inl (fun _ => (0 : Int32)))), (am 77, .inl (cs 77, 160, .inl (fun _ => (0 : Int32))))]) hD hS hA [6, 7, 8, 9] rfl
    refine va_calli (va_runV (As := [.int (xs (1 : Int32).toNatClampNeg), .int (xs (2 : Int32).toNatClampNeg), .int (xs (3 : Int32).toNatClampNeg)]) (rest := [.int r_25]) ⟨hx, hb, hml, hown, hts⟩ (rt_X12_sheet l dC dI H.size hm_ am cs fs (fun _ => (0 : Int32)) (fun _ => (0 : Int32)) (xs (1 : Int32).toNatClampNeg) (xs (2 : Int32).toNatClampNeg) (xs (3 : Int32).toNatClampNeg)) (cwV 3 hts gL_law_X12_sheet rfl rfl rfl (by decide +kernel) ⟨Nat.le_of_ble_eq_true rfl, Nat.le_of_ble_eq_true rfl⟩) ⟨fun a U g mk q => by obtain ⟨q0, q1, qP, qK, qD⟩ := q; exact ⟨q0, q1, qP, va_K.moved (u := U) (U := U.calling g mk a) (Vm.Alike.refl U.vm) qK, qD⟩, va_recv hKc hPc (ci := 12) (q0 := 0) rfl rfl, fun U hU hW => ⟨rfl, by rw [hU], by rw [hU]; exact hPc, va_K.moved hW.alike hKc, hDc.weaken (fun _ _ _ _ => trivial)⟩⟩ rfl rfl hl.1 rfl (lv_room (Nat.le_of_ble_eq_true rfl)) dL_law_1627 ⟨by decide +kernel, by decide +kernel⟩) hS (fun q _ h => hFc q h) hFc (fun r_29 u t H1 locs ht hvm hr_29 hB hz1 hk1 hS => ?_)
    obtain ⟨⟩ := u
    have hP1 : va_P (dC, dI) vwCl [] H1 := fun k q h => by simp at h
    have hD1 : va_D (va_A [(hm_, .inr (12, [.int 0, .int 0, .ref (am 2), .ref (am 3), .ref (am 4), .int 0, .ref (am 6), .ref (am 7), .ref (am 8), .int 0, .ref (am 10), .ref (am 11), .ref (am 12), .ref (am 13), .ref (am 14), .ref (am 15), .int 0, .ref (am 17), .ref (am 18), .ref (am 19), .ref (am 20), .int 0, .ref (am 22), .int 0, .ref (am 24), .ref (am 25), .ref (am 26), .ref (am 27), .ref (am 28), .ref (am 29), .int 0, .ref (am 31), .ref (am 32), .ref (am 33), .int 0, .ref (am 35), .int 0, .ref (am 37), .ref (am 38), .ref (am 39), .ref (am 40), .ref (am 41), .ref (am 42), .ref (am 43), .int 0, .ref (am 45), .ref (am 46), .ref (am 47), .int 0, .ref (am 49), .int 0, .ref (am 51), .int 0, .ref (am 53), .ref (am 54), .int 1, .int 0, .ref (am 57), .long 0, .ref (am 59), .ref (am 60), .long 0, .int 0, .int 0, .int 0, .int 0, .int 0, .int 0, .ref (am 68), .int 0, .int 0, .ref (am 71), .ref (am 72), .ref (am 73), .ref (am 74), .ref (am 75), .ref (am 76), .ref (am 77), .ref (am 78)])), (am 75, .inl (cs 75, 4, .inl fs)), (am 76, .inl (cs 76, 4, .inl (fun _ => (0 : Int32)))), (am 77, .inl (cs 77, 160, .inl (fun _ => (0 : Int32))))] H.size) [] := ⟨fun i j p q h => by simp at h, fun k q h => by simp at h⟩
    obtain ⟨hP, hD⟩ := va_join (wr := [(sa 0, .inr (7, [.ref (ai 0), .int (-1), .int 0])), (ai 0, .inl (ci 0, 40, .inl (fun _ => (0 : Int32)))), (sa 1, .inr (7, [.ref (ai 1), .int (-1), .int 0])), (ai 1, .inl (ci 1, 40, .inl (fun _ => (0 : Int32)))), (sa 2, .inr (7, [.ref (ai 2), .int (-1), .int 0])), (ai 2, .inl (ci 2, 40, .inl (fun _ => (0 : Int32))))]) (w1 := []) hP hD [6, 7, 8, 9] [0, 1, 2, 3, 4, 5] rfl rfl (by decide) (by decide) hk1 hFc hP1 hD1
    generalize H1 = H at hP hS ⊢
    have hP : va_P (dC, dI) vwCl [(sa 0, .inr (7, [.ref (ai 0), .int (-1), .int 0])), (ai 0, .inl (ci 0, 40, .inl (fun _ => (0 : Int32)))), (sa 1, .inr (7, [.ref (ai 1), .int (-1), .int 0])), (ai 1, .inl (ci 1, 40, .inl (fun _ => (0 : Int32)))), (sa 2, .inr (7, [.ref (ai 2), .int (-1), .int 0])), (ai 2, .inl (ci 2, 40, .inl (fun _ => (0 : Int32))))] H := hP
    have hD : va_D A [(sa 0, .inr (7, [.ref (ai 0), .int (-1), .int 0])), (ai 0, .inl (ci 0, 40, .inl (fun _ => (0 : Int32)))), (sa 1, .inr (7, [.ref (ai 1), .int (-1), .int 0])), (ai 1, .inl (ci 1, 40, .inl (fun _ => (0 : Int32)))), (sa 2, .inr (7, [.ref (ai 2), .int (-1), .int 0])), (ai 2, .inl (ci 2, 40, .inl (fun _ => (0 : Int32))))] := hD
    try dsimp only at hr_29
    have hq : (r_25 : Int32) = r_29 := by
      rcases hr_25 with ⟨a0, e0⟩ | ⟨a0, e0⟩ | ⟨a0, e0⟩ | ⟨a0, e0⟩ | ⟨a0, e0⟩ <;> rcases hr_29 with ⟨a1, e1⟩ | ⟨a1, e1⟩ | ⟨a1, e1⟩ | ⟨a1, e1⟩ | ⟨a1, e1⟩ <;> first | (rw [e0, e1]; done) | (exfalso; (try simp only [fa_lt, fa_le, fa_eq, fa_lt64, fa_le64, fa_eq64, Int32.reduceToInt, Int64.reduceToInt, zi_ite] at c_4); (try simp only [fa_lt, fa_le, fa_eq, fa_lt64, fa_le64, fa_eq64, Int32.reduceToInt, Int64.reduceToInt, zi_ite] at a0); (try simp only [fa_lt, fa_le, fa_eq, fa_lt64, fa_le64, fa_eq64, Int32.reduceToInt, Int64.reduceToInt, zi_ite] at a1); omega)
    refine lv_icmp_eq (tgt := 1837) hx hb dL_law_1630 (by decide) (fun _ => ?_) (fun c9 => absurd hq c9)
    exact law_fin C0 hL6 hS (by decide +kernel) (by decide +kernel) ls (lv_sub hl [3, 2, 1, 0] rfl)
set_option maxHeartbeats 1000000 in
set_option maxRecDepth 100000 in
theorem law_b34 {p : Program} {l : Launch} {e : Env} {s : State} {m : MethodId} {below : List Frame} {meth : Method} {c : Code} {dC : Nat → ClassId} {dI : Nat → Nat → Nat} {b L : Nat} {xs : Nat → Int32} (C0 : lw_At p s m meth c b L xs) (hL6 : L = 6) {hc_ hm_ : Nat} {ad sa ai am : Nat → Nat} {cd cs : Nat → ClassId} {fs : Nat → Int32} (hsrt : ∀ j : Nat, j < 4 → fs j = -1) {H : Heap} {locs : List Loc} (hK : va_K (dC, dI) vwCl [(cd 8, .object RX7), (cs 75, .int)] s) (hP : va_P (dC, dI) vwCl [(hc_, .inr (11, [.ref (ad 0), .ref (ad 1), .ref (ad 2), .ref (ad 3), .ref (ad 4), .ref (ad 5), .ref (ad 6), .ref (ad 7), .ref (ad 8), .int 0, .int 0, .int 0, .int 0])), (ad 8, .inl (cd 8, 4, .inr (.inr (.inr (.inr (va_up (va_up (va_up (va_up (fun _ => none) 0 (some (sa 0))) 1 (some (sa 1))) 2 (some (sa 2))) 3 (some (sa 3)))))))), (sa 0, .inr (7, [.ref (ai 0), .int (-1), .int 0])), (sa 1, .inr (7, [.ref (ai 1), .int (-1), .int 0])), (sa 2, .inr (7, [.ref (ai 2), .int (-1), .int 0])), (sa 3, .inr (7, [.ref (ai 3), .int (-1), .int 0])), (hm_, .inr (12, [.int 0, .int 0, .ref (am 2), .ref (am 3), .ref (am 4), .int 0, .ref (am 6), .ref (am 7), .ref (am 8), .int 0, .ref (am 10), .ref (am 11), .ref (am 12), .ref (am 13), .ref (am 14), .ref (am 15), .int 0, .ref (am 17), .ref (am 18), .ref (am 19), .ref (am 20), .int 0, .ref (am 22), .int 0, .ref (am 24), .ref (am 25), .ref (am 26), .ref (am 27), .ref (am 28), .ref (am 29), .int 0, .ref (am 31), .ref (am 32), .ref (am 33), .int 0, .ref (am 35), .int 0, .ref (am 37), .ref (am 38), .ref (am 39), .ref (am 40), .ref (am 41), .ref (am 42), .ref (am 43), .int 0, .ref (am 45), .ref (am 46), .ref (am 47), .int 0, .ref (am 49), .int 0, .ref (am 51), .int 0, .ref (am 53), .ref (am 54), .int 1, .int 0, .ref (am 57), .long 0, .ref (am 59), .ref (am 60), .long 0, .int 0, .int 0, .int 0, .int 0, .int 0, .int 0, .ref (am 68), .int 0, .int 0, .ref (am 71), .ref (am 72), .ref (am 73), .ref (am 74), .ref (am 75), .ref (am 76), .ref (am 77), .ref (am 78)])), (am 75, .inl (cs 75, 4, .inl fs))] H) (hD : va_D (fun q : Nat => s.heap.size ≤ q) [(hc_, .inr (11, [.ref (ad 0), .ref (ad 1), .ref (ad 2), .ref (ad 3), .ref (ad 4), .ref (ad 5), .ref (ad 6), .ref (ad 7), .ref (ad 8), .int 0, .int 0, .int 0, .int 0])), (ad 8, .inl (cd 8, 4, .inr (.inr (.inr (.inr (va_up (va_up (va_up (va_up (fun _ => none) 0 (some (sa 0))) 1 (some (sa 1))) 2 (some (sa 2))) 3 (some (sa 3)))))))), (sa 0, .inr (7, [.ref (ai 0), .int (-1), .int 0])), (sa 1, .inr (7, [.ref (ai 1), .int (-1), .int 0])), (sa 2, .inr (7, [.ref (ai 2), .int (-1), .int 0])), (sa 3, .inr (7, [.ref (ai 3), .int (-1), .int 0])), (hm_, .inr (12, [.int 0, .int 0, .ref (am 2), .ref (am 3), .ref (am 4), .int 0, .ref (am 6), .ref (am 7), .ref (am 8), .int 0, .ref (am 10), .ref (am 11), .ref (am 12), .ref (am 13), .ref (am 14), .ref (am 15), .int 0, .ref (am 17), .ref (am 18), .ref (am 19), .ref (am 20), .int 0, .ref (am 22), .int 0, .ref (am 24), .ref (am 25), .ref (am 26), .ref (am 27), .ref (am 28), .ref (am 29), .int 0, .ref (am 31), .ref (am 32), .ref (am 33), .int 0, .ref (am 35), .int 0, .ref (am 37), .ref (am 38), .ref (am 39), .ref (am 40), .ref (am 41), .ref (am 42), .ref (am 43), .int 0, .ref (am 45), .ref (am 46), .ref (am 47), .int 0, .ref (am 49), .int 0, .ref (am 51), .int 0, .ref (am 53), .ref (am 54), .int 1, .int 0, .ref (am 57), .long 0, .ref (am 59), .ref (am 60), .long 0, .int 0, .int 0, .int 0, .int 0, .int 0, .int 0, .ref (am 68), .int 0, .int 0, .ref (am 71), .ref (am 72), .ref (am 73), .ref (am 74), .ref (am 75), .ref (am 76), .ref (am 77), .ref (am 78)])), (am 75, .inl (cs 75, 4, .inl fs))]) (hS : va_S (fun q : Nat => s.heap.size ≤ q) s.heap H locs) (ls : Array Slot) (hl : lv_has ls 4 [(3, .int 0), (2, .ref hm_), (1, .ref hc_), (0, .ref b)]) : W p l e room_1 s m #[Value.ref b] below meth c H locs 124 5628 (lw_Z below #[Value.ref b] s) (F0 m 1635 ls []) := by
  obtain ⟨hx, hb, hr, hml, hown, hts, hX, hbl, hlocks, hgv⟩ := id C0
  have hown : s.vm.findClass RL = some m.cls := hown
  have hb : c.code = cL_law := hb
  generalize hAe : (fun q : Nat => s.heap.size ≤ q) = A at hD hS 
  have hA : ∀ q : Nat, s.heap.size ≤ q → A q := fun q h => by rw [← hAe]; exact h
  have hbA : ¬ A b := by rw [← hAe]; exact Nat.not_le.mpr hbl
  refine lv_aload_n hx hb dL_law_1635 rfl (lv_at hl 2 rfl) ?_
  refine lv_aload_n hx hb dL_law_1636 rfl (lv_at hl 3 rfl) ?_
  refine lv_iload_n hx hb dL_law_1637 rfl (lv_at hl 0 rfl) ?_
  refine lv_iconst (v := 1) hx hb dL_law_1638 (by decide) ?_
  refine lv_iadd hx hb dL_law_1639 ?_
  refine lv_topi (fun y_1 ey_1 => ?_)
  obtain rfl : y_1 = 1 := ey_1.trans (by decide)
  refine va_sld hx hb hX hbl hbA hS (by rw [hL6]; unfold vp_in; decide) dL_law_1640 ?_
  refine lv_aload_n hx hb dL_law_1641 rfl (lv_at hl 3 rfl) ?_
  refine lv_iload_n hx hb dL_law_1642 rfl (lv_at hl 0 rfl) ?_
  refine lv_iconst (v := 2) hx hb dL_law_1643 (by decide) ?_
  refine lv_iadd hx hb dL_law_1644 ?_
  refine lv_topi (fun y_2 ey_2 => ?_)
  obtain rfl : y_2 = 2 := ey_2.trans (by decide)
  refine va_sld hx hb hX hbl hbA hS (by rw [hL6]; unfold vp_in; decide) dL_law_1645 ?_
  refine lv_aload_n hx hb dL_law_1646 rfl (lv_at hl 3 rfl) ?_
  refine lv_iload_n hx hb dL_law_1647 rfl (lv_at hl 0 rfl) ?_
  refine lv_iconst (v := 3) hx hb dL_law_1648 (by decide) ?_
  refine lv_iadd hx hb dL_law_1649 ?_
  refine lv_topi (fun y_3 ey_3 => ?_)
  obtain rfl : y_3 = 3 := ey_3.trans (by decide)
  refine va_sld hx hb hX hbl hbA hS (by rw [hL6]; unfold vp_in; decide) dL_law_1650 ?_
  rcases (show ((xs (1 : Int32).toNatClampNeg).toInt < 0 ∨ 4 ≤ (xs (1 : Int32).toNatClampNeg).toInt) ∨ (xs (1 : Int32).toNatClampNeg) = 0 ∨ (xs (1 : Int32).toNatClampNeg) = 1 ∨ (xs (1 : Int32).toNatClampNeg) = 2 ∨ (xs (1 : Int32).toNatClampNeg) = 3 by simp only [fa_eq, Int32.reduceToInt]; omega) with c_4 | c_4 | c_4 | c_4 | c_4
  · have hPc := hP.sub (ws' := [(hc_, .inr (11, [.ref (ad 0), .ref (ad 1), .ref (ad 2), .ref (ad 3), .ref (ad 4), .ref (ad 5), .ref (ad 6), .ref (ad 7), .ref (ad 8), .int 0, .int 0, .int 0, .int 0])), (ad 8, .inl (cd 8, 4, .inr (.inr (.inr (.inr (va_up (va_up (va_up (va_up (fun _ => none) 0 (some (sa 0))) 1 (some (sa 1))) 2 (some (sa 2))) 3 (some (sa 3))))))))]) [0, 1] rfl
    have hKc := hK.sub (tys' := [(cd 8, .object RX7)]) [0] rfl
    refine vp_callSi (va_Run.run (va_runV (As := [.int (xs (1 : Int32).toNatClampNeg), .int (xs (2 : Int32).toNatClampNeg), .int (xs (3 : Int32).toNatClampNeg)]) (rest := []) ⟨hx, hb, hml, hown, hts⟩ (rt_X11_cellO l dC dI hc_ ad (cd 8) (va_up (va_up (va_up (va_up (fun _ => none) 0 (some (sa 0))) 1 (some (sa 1))) 2 (some (sa 2))) 3 (some (sa 3))) (xs (1 : Int32).toNatClampNeg) (xs (2 : Int32).toNatClampNeg) (xs (3 : Int32).toNatClampNeg) c_4) (cwV 3 hts gL_law_X11_cell rfl rfl rfl (by decide +kernel) ⟨Nat.le_of_ble_eq_true rfl, Nat.le_of_ble_eq_true rfl⟩) ⟨fun a U g mk q => by obtain ⟨q0, qP, qK⟩ := q; exact ⟨q0, qP, va_K.moved (u := U) (U := U.calling g mk a) (Vm.Alike.refl U.vm) qK⟩, va_recv hKc hPc (ci := 11) (q0 := 0) rfl rfl, fun U hU hW => ⟨rfl, by rw [hU]; exact hPc, va_K.moved hW.alike hKc⟩⟩ rfl rfl hl.1 rfl (lv_room (Nat.le_of_ble_eq_true rfl)) dL_law_1651 ⟨by decide +kernel, by decide +kernel⟩)) (fun r_5 hr_5 => ?_)
    obtain rfl := hr_5
    refine lv_aload_n hx hb dL_law_1654 rfl (lv_at hl 1 rfl) ?_
    refine lv_aload_n hx hb dL_law_1655 rfl (lv_at hl 3 rfl) ?_
    refine lv_iload_n hx hb dL_law_1656 rfl (lv_at hl 0 rfl) ?_
    refine lv_iconst (v := 1) hx hb dL_law_1657 (by decide) ?_
    refine lv_iadd hx hb dL_law_1658 ?_
    refine lv_topi (fun y_6 ey_6 => ?_)
    obtain rfl : y_6 = 1 := ey_6.trans (by decide)
    refine va_sld hx hb hX hbl hbA hS (by rw [hL6]; unfold vp_in; decide) dL_law_1659 ?_
    refine lv_aload_n hx hb dL_law_1660 rfl (lv_at hl 3 rfl) ?_
    refine lv_iload_n hx hb dL_law_1661 rfl (lv_at hl 0 rfl) ?_
    refine lv_iconst (v := 2) hx hb dL_law_1662 (by decide) ?_
    refine lv_iadd hx hb dL_law_1663 ?_
    refine lv_topi (fun y_7 ey_7 => ?_)
    obtain rfl : y_7 = 2 := ey_7.trans (by decide)
    refine va_sld hx hb hX hbl hbA hS (by rw [hL6]; unfold vp_in; decide) dL_law_1664 ?_
    refine lv_aload_n hx hb dL_law_1665 rfl (lv_at hl 3 rfl) ?_
    refine lv_iload_n hx hb dL_law_1666 rfl (lv_at hl 0 rfl) ?_
    refine lv_iconst (v := 3) hx hb dL_law_1667 (by decide) ?_
    refine lv_iadd hx hb dL_law_1668 ?_
    refine lv_topi (fun y_8 ey_8 => ?_)
    obtain rfl : y_8 = 3 := ey_8.trans (by decide)
    refine va_sld hx hb hX hbl hbA hS (by rw [hL6]; unfold vp_in; decide) dL_law_1669 ?_
    have hPc := hP.sub (ws' := [(hm_, .inr (12, [.int 0, .int 0, .ref (am 2), .ref (am 3), .ref (am 4), .int 0, .ref (am 6), .ref (am 7), .ref (am 8), .int 0, .ref (am 10), .ref (am 11), .ref (am 12), .ref (am 13), .ref (am 14), .ref (am 15), .int 0, .ref (am 17), .ref (am 18), .ref (am 19), .ref (am 20), .int 0, .ref (am 22), .int 0, .ref (am 24), .ref (am 25), .ref (am 26), .ref (am 27), .ref (am 28), .ref (am 29), .int 0, .ref (am 31), .ref (am 32), .ref (am 33), .int 0, .ref (am 35), .int 0, .ref (am 37), .ref (am 38), .ref (am 39), .ref (am 40), .ref (am 41), .ref (am 42), .ref (am 43), .int 0, .ref (am 45), .ref (am 46), .ref (am 47), .int 0, .ref (am 49), .int 0, .ref (am 51), .int 0, .ref (am 53), .ref (am 54), .int 1, .int 0, .ref (am 57), .long 0, .ref (am 59), .ref (am 60), .long 0, .int 0, .int 0, .int 0, .int 0, .int 0, .int 0, .ref (am 68), .int 0, .int 0, .ref (am 71), .ref (am 72), .ref (am 73), .ref (am 74), .ref (am 75), .ref (am 76), .ref (am 77), .ref (am 78)])), (am 75, .inl (cs 75, 4, .inl fs))]) [6, 7] rfl
    have hKc := hK.sub (tys' := [(cs 75, .int)]) [1] rfl
    refine vp_callSi (va_Run.run (va_runV (As := [.int (xs (1 : Int32).toNatClampNeg), .int (xs (2 : Int32).toNatClampNeg), .int (xs (3 : Int32).toNatClampNeg)]) (rest := [.int (-2)]) ⟨hx, hb, hml, hown, hts⟩ (rt_X12_cell l dC dI hm_ am cs fs (xs (1 : Int32).toNatClampNeg) (xs (2 : Int32).toNatClampNeg) (xs (3 : Int32).toNatClampNeg) hsrt) (cwV 3 hts gL_law_X12_cell rfl rfl rfl (by decide +kernel) ⟨Nat.le_of_ble_eq_true rfl, Nat.le_of_ble_eq_true rfl⟩) ⟨fun a U g mk q => by obtain ⟨q0, qP, qK⟩ := q; exact ⟨q0, qP, va_K.moved (u := U) (U := U.calling g mk a) (Vm.Alike.refl U.vm) qK⟩, va_recv hKc hPc (ci := 12) (q0 := 0) rfl rfl, fun U hU hW => ⟨rfl, by rw [hU]; exact hPc, va_K.moved hW.alike hKc⟩⟩ rfl rfl hl.1 rfl (lv_room (Nat.le_of_ble_eq_true rfl)) dL_law_1670 ⟨by decide +kernel, by decide +kernel⟩)) (fun r_9 hr_9 => ?_)
    have hq : ((-2) : Int32) = r_9 := by
      rcases hr_9 with ⟨a1, e1⟩ | ⟨a1, e1⟩ <;> first | (rw [e1]; done) | (exfalso; (try simp only [fa_lt, fa_le, fa_eq, fa_lt64, fa_le64, fa_eq64, Int32.reduceToInt, Int64.reduceToInt, zi_ite] at c_4); (try simp only [fa_lt, fa_le, fa_eq, fa_lt64, fa_le64, fa_eq64, Int32.reduceToInt, Int64.reduceToInt, zi_ite] at a1); omega)
    refine lv_icmp_eq (tgt := 1837) hx hb dL_law_1673 (by decide) (fun _ => ?_) (fun c9 => absurd hq c9)
    exact law_fin C0 hL6 hS (by decide +kernel) (by decide +kernel) ls (lv_sub hl [3, 2, 1, 0] rfl)
  · have hPc := hP.sub (ws' := [(hc_, .inr (11, [.ref (ad 0), .ref (ad 1), .ref (ad 2), .ref (ad 3), .ref (ad 4), .ref (ad 5), .ref (ad 6), .ref (ad 7), .ref (ad 8), .int 0, .int 0, .int 0, .int 0])), (ad 8, .inl (cd 8, 4, .inr (.inr (.inr (.inr (va_up (va_up (va_up (va_up (fun _ => none) 0 (some (sa 0))) 1 (some (sa 1))) 2 (some (sa 2))) 3 (some (sa 3)))))))), (sa 0, .inr (7, [.ref ((fun _ => ai 0) 0), .int (-1), .int 0]))]) [0, 1, 2] rfl
    have hKc := hK.sub (tys' := [(cd 8, .object RX7)]) [0] rfl
    refine vp_callSi (va_Run.run (va_runV (As := [.int (xs (1 : Int32).toNatClampNeg), .int (xs (2 : Int32).toNatClampNeg), .int (xs (3 : Int32).toNatClampNeg)]) (rest := []) ⟨hx, hb, hml, hown, hts⟩ (rt_X11_cellI l dC dI hc_ ad (cd 8) (va_up (va_up (va_up (va_up (fun _ => none) 0 (some (sa 0))) 1 (some (sa 1))) 2 (some (sa 2))) 3 (some (sa 3))) (sa 0) (fun _ => ai 0) (xs (1 : Int32).toNatClampNeg) (xs (2 : Int32).toNatClampNeg) (xs (3 : Int32).toNatClampNeg) (by rw [c_4]; decide) (by rw [c_4]; rfl)) (cwV 3 hts gL_law_X11_cell rfl rfl rfl (by decide +kernel) ⟨Nat.le_of_ble_eq_true rfl, Nat.le_of_ble_eq_true rfl⟩) ⟨fun a U g mk q => by obtain ⟨q0, qP, qK⟩ := q; exact ⟨q0, qP, va_K.moved (u := U) (U := U.calling g mk a) (Vm.Alike.refl U.vm) qK⟩, va_recv hKc hPc (ci := 11) (q0 := 0) rfl rfl, fun U hU hW => ⟨rfl, by rw [hU]; exact hPc, va_K.moved hW.alike hKc⟩⟩ rfl rfl hl.1 rfl (lv_room (Nat.le_of_ble_eq_true rfl)) dL_law_1651 ⟨by decide +kernel, by decide +kernel⟩)) (fun r_10 hr_10 => ?_)
    obtain rfl := hr_10
    refine lv_aload_n hx hb dL_law_1654 rfl (lv_at hl 1 rfl) ?_
    refine lv_aload_n hx hb dL_law_1655 rfl (lv_at hl 3 rfl) ?_
    refine lv_iload_n hx hb dL_law_1656 rfl (lv_at hl 0 rfl) ?_
    refine lv_iconst (v := 1) hx hb dL_law_1657 (by decide) ?_
    refine lv_iadd hx hb dL_law_1658 ?_
    refine lv_topi (fun y_11 ey_11 => ?_)
    obtain rfl : y_11 = 1 := ey_11.trans (by decide)
    refine va_sld hx hb hX hbl hbA hS (by rw [hL6]; unfold vp_in; decide) dL_law_1659 ?_
    refine lv_aload_n hx hb dL_law_1660 rfl (lv_at hl 3 rfl) ?_
    refine lv_iload_n hx hb dL_law_1661 rfl (lv_at hl 0 rfl) ?_
    refine lv_iconst (v := 2) hx hb dL_law_1662 (by decide) ?_
    refine lv_iadd hx hb dL_law_1663 ?_
    refine lv_topi (fun y_12 ey_12 => ?_)
    obtain rfl : y_12 = 2 := ey_12.trans (by decide)
    refine va_sld hx hb hX hbl hbA hS (by rw [hL6]; unfold vp_in; decide) dL_law_1664 ?_
    refine lv_aload_n hx hb dL_law_1665 rfl (lv_at hl 3 rfl) ?_
    refine lv_iload_n hx hb dL_law_1666 rfl (lv_at hl 0 rfl) ?_
    refine lv_iconst (v := 3) hx hb dL_law_1667 (by decide) ?_
    refine lv_iadd hx hb dL_law_1668 ?_
    refine lv_topi (fun y_13 ey_13 => ?_)
    obtain rfl : y_13 = 3 := ey_13.trans (by decide)
    refine va_sld hx hb hX hbl hbA hS (by rw [hL6]; unfold vp_in; decide) dL_law_1669 ?_
    have hPc := hP.sub (ws' := [(hm_, .inr (12, [.int 0, .int 0, .ref (am 2), .ref (am 3), .ref (am 4), .int 0, .ref (am 6), .ref (am 7), .ref (am 8), .int 0, .ref (am 10), .ref (am 11), .ref (am 12), .ref (am 13), .ref (am 14), .ref (am 15), .int 0, .ref (am 17), .ref (am 18), .ref (am 19), .ref (am 20), .int 0, .ref (am 22), .int 0, .ref (am 24), .ref (am 25), .ref (am 26), .ref (am 27), .ref (am 28), .ref (am 29), .int 0, .ref (am 31), .ref (am 32), .ref (am 33), .int 0, .ref (am 35), .int 0, .ref (am 37), .ref (am 38), .ref (am 39), .ref (am 40), .ref (am 41), .ref (am 42), .ref (am 43), .int 0, .ref (am 45), .ref (am 46), .ref (am 47), .int 0, .ref (am 49), .int 0, .ref (am 51), .int 0, .ref (am 53), .ref (am 54), .int 1, .int 0, .ref (am 57), .long 0, .ref (am 59), .ref (am 60), .long 0, .int 0, .int 0, .int 0, .int 0, .int 0, .int 0, .ref (am 68), .int 0, .int 0, .ref (am 71), .ref (am 72), .ref (am 73), .ref (am 74), .ref (am 75), .ref (am 76), .ref (am 77), .ref (am 78)])), (am 75, .inl (cs 75, 4, .inl fs))]) [6, 7] rfl
    have hKc := hK.sub (tys' := [(cs 75, .int)]) [1] rfl
    refine vp_callSi (va_Run.run (va_runV (As := [.int (xs (1 : Int32).toNatClampNeg), .int (xs (2 : Int32).toNatClampNeg), .int (xs (3 : Int32).toNatClampNeg)]) (rest := [.int (-11)]) ⟨hx, hb, hml, hown, hts⟩ (rt_X12_cell l dC dI hm_ am cs fs (xs (1 : Int32).toNatClampNeg) (xs (2 : Int32).toNatClampNeg) (xs (3 : Int32).toNatClampNeg) hsrt) (cwV 3 hts gL_law_X12_cell rfl rfl rfl (by decide +kernel) ⟨Nat.le_of_ble_eq_true rfl, Nat.le_of_ble_eq_true rfl⟩) ⟨fun a U g mk q => by obtain ⟨q0, qP, qK⟩ := q; exact ⟨q0, qP, va_K.moved (u := U) (U := U.calling g mk a) (Vm.Alike.refl U.vm) qK⟩, va_recv hKc hPc (ci := 12) (q0 := 0) rfl rfl, fun U hU hW => ⟨rfl, by rw [hU]; exact hPc, va_K.moved hW.alike hKc⟩⟩ rfl rfl hl.1 rfl (lv_room (Nat.le_of_ble_eq_true rfl)) dL_law_1670 ⟨by decide +kernel, by decide +kernel⟩)) (fun r_14 hr_14 => ?_)
    have hq : ((-11) : Int32) = r_14 := by
      rcases hr_14 with ⟨a1, e1⟩ | ⟨a1, e1⟩ <;> first | (rw [e1]; done) | (exfalso; (try simp only [fa_lt, fa_le, fa_eq, fa_lt64, fa_le64, fa_eq64, Int32.reduceToInt, Int64.reduceToInt, zi_ite] at c_4); (try simp only [fa_lt, fa_le, fa_eq, fa_lt64, fa_le64, fa_eq64, Int32.reduceToInt, Int64.reduceToInt, zi_ite] at a1); omega)
    refine lv_icmp_eq (tgt := 1837) hx hb dL_law_1673 (by decide) (fun _ => ?_) (fun c9 => absurd hq c9)
    exact law_fin C0 hL6 hS (by decide +kernel) (by decide +kernel) ls (lv_sub hl [3, 2, 1, 0] rfl)
  · have hPc := hP.sub (ws' := [(hc_, .inr (11, [.ref (ad 0), .ref (ad 1), .ref (ad 2), .ref (ad 3), .ref (ad 4), .ref (ad 5), .ref (ad 6), .ref (ad 7), .ref (ad 8), .int 0, .int 0, .int 0, .int 0])), (ad 8, .inl (cd 8, 4, .inr (.inr (.inr (.inr (va_up (va_up (va_up (va_up (fun _ => none) 0 (some (sa 0))) 1 (some (sa 1))) 2 (some (sa 2))) 3 (some (sa 3)))))))), (sa 1, .inr (7, [.ref ((fun _ => ai 1) 0), .int (-1), .int 0]))]) [0, 1, 3] rfl
    have hKc := hK.sub (tys' := [(cd 8, .object RX7)]) [0] rfl
    refine vp_callSi (va_Run.run (va_runV (As := [.int (xs (1 : Int32).toNatClampNeg), .int (xs (2 : Int32).toNatClampNeg), .int (xs (3 : Int32).toNatClampNeg)]) (rest := []) ⟨hx, hb, hml, hown, hts⟩ (rt_X11_cellI l dC dI hc_ ad (cd 8) (va_up (va_up (va_up (va_up (fun _ => none) 0 (some (sa 0))) 1 (some (sa 1))) 2 (some (sa 2))) 3 (some (sa 3))) (sa 1) (fun _ => ai 1) (xs (1 : Int32).toNatClampNeg) (xs (2 : Int32).toNatClampNeg) (xs (3 : Int32).toNatClampNeg) (by rw [c_4]; decide) (by rw [c_4]; rfl)) (cwV 3 hts gL_law_X11_cell rfl rfl rfl (by decide +kernel) ⟨Nat.le_of_ble_eq_true rfl, Nat.le_of_ble_eq_true rfl⟩) ⟨fun a U g mk q => by obtain ⟨q0, qP, qK⟩ := q; exact ⟨q0, qP, va_K.moved (u := U) (U := U.calling g mk a) (Vm.Alike.refl U.vm) qK⟩, va_recv hKc hPc (ci := 11) (q0 := 0) rfl rfl, fun U hU hW => ⟨rfl, by rw [hU]; exact hPc, va_K.moved hW.alike hKc⟩⟩ rfl rfl hl.1 rfl (lv_room (Nat.le_of_ble_eq_true rfl)) dL_law_1651 ⟨by decide +kernel, by decide +kernel⟩)) (fun r_15 hr_15 => ?_)
    obtain rfl := hr_15
    refine lv_aload_n hx hb dL_law_1654 rfl (lv_at hl 1 rfl) ?_
    refine lv_aload_n hx hb dL_law_1655 rfl (lv_at hl 3 rfl) ?_
    refine lv_iload_n hx hb dL_law_1656 rfl (lv_at hl 0 rfl) ?_
    refine lv_iconst (v := 1) hx hb dL_law_1657 (by decide) ?_
    refine lv_iadd hx hb dL_law_1658 ?_
    refine lv_topi (fun y_16 ey_16 => ?_)
    obtain rfl : y_16 = 1 := ey_16.trans (by decide)
    refine va_sld hx hb hX hbl hbA hS (by rw [hL6]; unfold vp_in; decide) dL_law_1659 ?_
    refine lv_aload_n hx hb dL_law_1660 rfl (lv_at hl 3 rfl) ?_
    refine lv_iload_n hx hb dL_law_1661 rfl (lv_at hl 0 rfl) ?_
    refine lv_iconst (v := 2) hx hb dL_law_1662 (by decide) ?_
    refine lv_iadd hx hb dL_law_1663 ?_
    refine lv_topi (fun y_17 ey_17 => ?_)
    obtain rfl : y_17 = 2 := ey_17.trans (by decide)
    refine va_sld hx hb hX hbl hbA hS (by rw [hL6]; unfold vp_in; decide) dL_law_1664 ?_
    refine lv_aload_n hx hb dL_law_1665 rfl (lv_at hl 3 rfl) ?_
    refine lv_iload_n hx hb dL_law_1666 rfl (lv_at hl 0 rfl) ?_
    refine lv_iconst (v := 3) hx hb dL_law_1667 (by decide) ?_
    refine lv_iadd hx hb dL_law_1668 ?_
    refine lv_topi (fun y_18 ey_18 => ?_)
    obtain rfl : y_18 = 3 := ey_18.trans (by decide)
    refine va_sld hx hb hX hbl hbA hS (by rw [hL6]; unfold vp_in; decide) dL_law_1669 ?_
    have hPc := hP.sub (ws' := [(hm_, .inr (12, [.int 0, .int 0, .ref (am 2), .ref (am 3), .ref (am 4), .int 0, .ref (am 6), .ref (am 7), .ref (am 8), .int 0, .ref (am 10), .ref (am 11), .ref (am 12), .ref (am 13), .ref (am 14), .ref (am 15), .int 0, .ref (am 17), .ref (am 18), .ref (am 19), .ref (am 20), .int 0, .ref (am 22), .int 0, .ref (am 24), .ref (am 25), .ref (am 26), .ref (am 27), .ref (am 28), .ref (am 29), .int 0, .ref (am 31), .ref (am 32), .ref (am 33), .int 0, .ref (am 35), .int 0, .ref (am 37), .ref (am 38), .ref (am 39), .ref (am 40), .ref (am 41), .ref (am 42), .ref (am 43), .int 0, .ref (am 45), .ref (am 46), .ref (am 47), .int 0, .ref (am 49), .int 0, .ref (am 51), .int 0, .ref (am 53), .ref (am 54), .int 1, .int 0, .ref (am 57), .long 0, .ref (am 59), .ref (am 60), .long 0, .int 0, .int 0, .int 0, .int 0, .int 0, .int 0, .ref (am 68), .int 0, .int 0, .ref (am 71), .ref (am 72), .ref (am 73), .ref (am 74), .ref (am 75), .ref (am 76), .ref (am 77), .ref (am 78)])), (am 75, .inl (cs 75, 4, .inl fs))]) [6, 7] rfl
    have hKc := hK.sub (tys' := [(cs 75, .int)]) [1] rfl
    refine vp_callSi (va_Run.run (va_runV (As := [.int (xs (1 : Int32).toNatClampNeg), .int (xs (2 : Int32).toNatClampNeg), .int (xs (3 : Int32).toNatClampNeg)]) (rest := [.int (-11)]) ⟨hx, hb, hml, hown, hts⟩ (rt_X12_cell l dC dI hm_ am cs fs (xs (1 : Int32).toNatClampNeg) (xs (2 : Int32).toNatClampNeg) (xs (3 : Int32).toNatClampNeg) hsrt) (cwV 3 hts gL_law_X12_cell rfl rfl rfl (by decide +kernel) ⟨Nat.le_of_ble_eq_true rfl, Nat.le_of_ble_eq_true rfl⟩) ⟨fun a U g mk q => by obtain ⟨q0, qP, qK⟩ := q; exact ⟨q0, qP, va_K.moved (u := U) (U := U.calling g mk a) (Vm.Alike.refl U.vm) qK⟩, va_recv hKc hPc (ci := 12) (q0 := 0) rfl rfl, fun U hU hW => ⟨rfl, by rw [hU]; exact hPc, va_K.moved hW.alike hKc⟩⟩ rfl rfl hl.1 rfl (lv_room (Nat.le_of_ble_eq_true rfl)) dL_law_1670 ⟨by decide +kernel, by decide +kernel⟩)) (fun r_19 hr_19 => ?_)
    have hq : ((-11) : Int32) = r_19 := by
      rcases hr_19 with ⟨a1, e1⟩ | ⟨a1, e1⟩ <;> first | (rw [e1]; done) | (exfalso; (try simp only [fa_lt, fa_le, fa_eq, fa_lt64, fa_le64, fa_eq64, Int32.reduceToInt, Int64.reduceToInt, zi_ite] at c_4); (try simp only [fa_lt, fa_le, fa_eq, fa_lt64, fa_le64, fa_eq64, Int32.reduceToInt, Int64.reduceToInt, zi_ite] at a1); omega)
    refine lv_icmp_eq (tgt := 1837) hx hb dL_law_1673 (by decide) (fun _ => ?_) (fun c9 => absurd hq c9)
    exact law_fin C0 hL6 hS (by decide +kernel) (by decide +kernel) ls (lv_sub hl [3, 2, 1, 0] rfl)
  · have hPc := hP.sub (ws' := [(hc_, .inr (11, [.ref (ad 0), .ref (ad 1), .ref (ad 2), .ref (ad 3), .ref (ad 4), .ref (ad 5), .ref (ad 6), .ref (ad 7), .ref (ad 8), .int 0, .int 0, .int 0, .int 0])), (ad 8, .inl (cd 8, 4, .inr (.inr (.inr (.inr (va_up (va_up (va_up (va_up (fun _ => none) 0 (some (sa 0))) 1 (some (sa 1))) 2 (some (sa 2))) 3 (some (sa 3)))))))), (sa 2, .inr (7, [.ref ((fun _ => ai 2) 0), .int (-1), .int 0]))]) [0, 1, 4] rfl
    have hKc := hK.sub (tys' := [(cd 8, .object RX7)]) [0] rfl
    refine vp_callSi (va_Run.run (va_runV (As := [.int (xs (1 : Int32).toNatClampNeg), .int (xs (2 : Int32).toNatClampNeg), .int (xs (3 : Int32).toNatClampNeg)]) (rest := []) ⟨hx, hb, hml, hown, hts⟩ (rt_X11_cellI l dC dI hc_ ad (cd 8) (va_up (va_up (va_up (va_up (fun _ => none) 0 (some (sa 0))) 1 (some (sa 1))) 2 (some (sa 2))) 3 (some (sa 3))) (sa 2) (fun _ => ai 2) (xs (1 : Int32).toNatClampNeg) (xs (2 : Int32).toNatClampNeg) (xs (3 : Int32).toNatClampNeg) (by rw [c_4]; decide) (by rw [c_4]; rfl)) (cwV 3 hts gL_law_X11_cell rfl rfl rfl (by decide +kernel) ⟨Nat.le_of_ble_eq_true rfl, Nat.le_of_ble_eq_true rfl⟩) ⟨fun a U g mk q => by obtain ⟨q0, qP, qK⟩ := q; exact ⟨q0, qP, va_K.moved (u := U) (U := U.calling g mk a) (Vm.Alike.refl U.vm) qK⟩, va_recv hKc hPc (ci := 11) (q0 := 0) rfl rfl, fun U hU hW => ⟨rfl, by rw [hU]; exact hPc, va_K.moved hW.alike hKc⟩⟩ rfl rfl hl.1 rfl (lv_room (Nat.le_of_ble_eq_true rfl)) dL_law_1651 ⟨by decide +kernel, by decide +kernel⟩)) (fun r_20 hr_20 => ?_)
    obtain rfl := hr_20
    refine lv_aload_n hx hb dL_law_1654 rfl (lv_at hl 1 rfl) ?_
    refine lv_aload_n hx hb dL_law_1655 rfl (lv_at hl 3 rfl) ?_
    refine lv_iload_n hx hb dL_law_1656 rfl (lv_at hl 0 rfl) ?_
    refine lv_iconst (v := 1) hx hb dL_law_1657 (by decide) ?_
    refine lv_iadd hx hb dL_law_1658 ?_
    refine lv_topi (fun y_21 ey_21 => ?_)
    obtain rfl : y_21 = 1 := ey_21.trans (by decide)
    refine va_sld hx hb hX hbl hbA hS (by rw [hL6]; unfold vp_in; decide) dL_law_1659 ?_
    refine lv_aload_n hx hb dL_law_1660 rfl (lv_at hl 3 rfl) ?_
    refine lv_iload_n hx hb dL_law_1661 rfl (lv_at hl 0 rfl) ?_
    refine lv_iconst (v := 2) hx hb dL_law_1662 (by decide) ?_
    refine lv_iadd hx hb dL_law_1663 ?_
    refine lv_topi (fun y_22 ey_22 => ?_)
    obtain rfl : y_22 = 2 := ey_22.trans (by decide)
    refine va_sld hx hb hX hbl hbA hS (by rw [hL6]; unfold vp_in; decide) dL_law_1664 ?_
    refine lv_aload_n hx hb dL_law_1665 rfl (lv_at hl 3 rfl) ?_
    refine lv_iload_n hx hb dL_law_1666 rfl (lv_at hl 0 rfl) ?_
    refine lv_iconst (v := 3) hx hb dL_law_1667 (by decide) ?_
    refine lv_iadd hx hb dL_law_1668 ?_
    refine lv_topi (fun y_23 ey_23 => ?_)
    obtain rfl : y_23 = 3 := ey_23.trans (by decide)
    refine va_sld hx hb hX hbl hbA hS (by rw [hL6]; unfold vp_in; decide) dL_law_1669 ?_
    have hPc := hP.sub (ws' := [(hm_, .inr (12, [.int 0, .int 0, .ref (am 2), .ref (am 3), .ref (am 4), .int 0, .ref (am 6), .ref (am 7), .ref (am 8), .int 0, .ref (am 10), .ref (am 11), .ref (am 12), .ref (am 13), .ref (am 14), .ref (am 15), .int 0, .ref (am 17), .ref (am 18), .ref (am 19), .ref (am 20), .int 0, .ref (am 22), .int 0, .ref (am 24), .ref (am 25), .ref (am 26), .ref (am 27), .ref (am 28), .ref (am 29), .int 0, .ref (am 31), .ref (am 32), .ref (am 33), .int 0, .ref (am 35), .int 0, .ref (am 37), .ref (am 38), .ref (am 39), .ref (am 40), .ref (am 41), .ref (am 42), .ref (am 43), .int 0, .ref (am 45), .ref (am 46), .ref (am 47), .int 0, .ref (am 49), .int 0, .ref (am 51), .int 0, .ref (am 53), .ref (am 54), .int 1, .int 0, .ref (am 57), .long 0, .ref (am 59), .ref (am 60), .long 0, .int 0, .int 0, .int 0, .int 0, .int 0, .int 0, .ref (am 68), .int 0, .int 0, .ref (am 71), .ref (am 72), .ref (am 73), .ref (am 74), .ref (am 75), .ref (am 76), .ref (am 77), .ref (am 78)])), (am 75, .inl (cs 75, 4, .inl fs))]) [6, 7] rfl
    have hKc := hK.sub (tys' := [(cs 75, .int)]) [1] rfl
    refine vp_callSi (va_Run.run (va_runV (As := [.int (xs (1 : Int32).toNatClampNeg), .int (xs (2 : Int32).toNatClampNeg), .int (xs (3 : Int32).toNatClampNeg)]) (rest := [.int (-11)]) ⟨hx, hb, hml, hown, hts⟩ (rt_X12_cell l dC dI hm_ am cs fs (xs (1 : Int32).toNatClampNeg) (xs (2 : Int32).toNatClampNeg) (xs (3 : Int32).toNatClampNeg) hsrt) (cwV 3 hts gL_law_X12_cell rfl rfl rfl (by decide +kernel) ⟨Nat.le_of_ble_eq_true rfl, Nat.le_of_ble_eq_true rfl⟩) ⟨fun a U g mk q => by obtain ⟨q0, qP, qK⟩ := q; exact ⟨q0, qP, va_K.moved (u := U) (U := U.calling g mk a) (Vm.Alike.refl U.vm) qK⟩, va_recv hKc hPc (ci := 12) (q0 := 0) rfl rfl, fun U hU hW => ⟨rfl, by rw [hU]; exact hPc, va_K.moved hW.alike hKc⟩⟩ rfl rfl hl.1 rfl (lv_room (Nat.le_of_ble_eq_true rfl)) dL_law_1670 ⟨by decide +kernel, by decide +kernel⟩)) (fun r_24 hr_24 => ?_)
    have hq : ((-11) : Int32) = r_24 := by
      rcases hr_24 with ⟨a1, e1⟩ | ⟨a1, e1⟩ <;> first | (rw [e1]; done) | (exfalso; (try simp only [fa_lt, fa_le, fa_eq, fa_lt64, fa_le64, fa_eq64, Int32.reduceToInt, Int64.reduceToInt, zi_ite] at c_4); (try simp only [fa_lt, fa_le, fa_eq, fa_lt64, fa_le64, fa_eq64, Int32.reduceToInt, Int64.reduceToInt, zi_ite] at a1); omega)
    refine lv_icmp_eq (tgt := 1837) hx hb dL_law_1673 (by decide) (fun _ => ?_) (fun c9 => absurd hq c9)
    exact law_fin C0 hL6 hS (by decide +kernel) (by decide +kernel) ls (lv_sub hl [3, 2, 1, 0] rfl)
  · have hPc := hP.sub (ws' := [(hc_, .inr (11, [.ref (ad 0), .ref (ad 1), .ref (ad 2), .ref (ad 3), .ref (ad 4), .ref (ad 5), .ref (ad 6), .ref (ad 7), .ref (ad 8), .int 0, .int 0, .int 0, .int 0])), (ad 8, .inl (cd 8, 4, .inr (.inr (.inr (.inr (va_up (va_up (va_up (va_up (fun _ => none) 0 (some (sa 0))) 1 (some (sa 1))) 2 (some (sa 2))) 3 (some (sa 3)))))))), (sa 3, .inr (7, [.ref ((fun _ => ai 3) 0), .int (-1), .int 0]))]) [0, 1, 5] rfl
    have hKc := hK.sub (tys' := [(cd 8, .object RX7)]) [0] rfl
    refine vp_callSi (va_Run.run (va_runV (As := [.int (xs (1 : Int32).toNatClampNeg), .int (xs (2 : Int32).toNatClampNeg), .int (xs (3 : Int32).toNatClampNeg)]) (rest := []) ⟨hx, hb, hml, hown, hts⟩ (rt_X11_cellI l dC dI hc_ ad (cd 8) (va_up (va_up (va_up (va_up (fun _ => none) 0 (some (sa 0))) 1 (some (sa 1))) 2 (some (sa 2))) 3 (some (sa 3))) (sa 3) (fun _ => ai 3) (xs (1 : Int32).toNatClampNeg) (xs (2 : Int32).toNatClampNeg) (xs (3 : Int32).toNatClampNeg) (by rw [c_4]; decide) (by rw [c_4]; rfl)) (cwV 3 hts gL_law_X11_cell rfl rfl rfl (by decide +kernel) ⟨Nat.le_of_ble_eq_true rfl, Nat.le_of_ble_eq_true rfl⟩) ⟨fun a U g mk q => by obtain ⟨q0, qP, qK⟩ := q; exact ⟨q0, qP, va_K.moved (u := U) (U := U.calling g mk a) (Vm.Alike.refl U.vm) qK⟩, va_recv hKc hPc (ci := 11) (q0 := 0) rfl rfl, fun U hU hW => ⟨rfl, by rw [hU]; exact hPc, va_K.moved hW.alike hKc⟩⟩ rfl rfl hl.1 rfl (lv_room (Nat.le_of_ble_eq_true rfl)) dL_law_1651 ⟨by decide +kernel, by decide +kernel⟩)) (fun r_25 hr_25 => ?_)
    obtain rfl := hr_25
    refine lv_aload_n hx hb dL_law_1654 rfl (lv_at hl 1 rfl) ?_
    refine lv_aload_n hx hb dL_law_1655 rfl (lv_at hl 3 rfl) ?_
    refine lv_iload_n hx hb dL_law_1656 rfl (lv_at hl 0 rfl) ?_
    refine lv_iconst (v := 1) hx hb dL_law_1657 (by decide) ?_
    refine lv_iadd hx hb dL_law_1658 ?_
    refine lv_topi (fun y_26 ey_26 => ?_)
    obtain rfl : y_26 = 1 := ey_26.trans (by decide)
    refine va_sld hx hb hX hbl hbA hS (by rw [hL6]; unfold vp_in; decide) dL_law_1659 ?_
    refine lv_aload_n hx hb dL_law_1660 rfl (lv_at hl 3 rfl) ?_
    refine lv_iload_n hx hb dL_law_1661 rfl (lv_at hl 0 rfl) ?_
    refine lv_iconst (v := 2) hx hb dL_law_1662 (by decide) ?_
    refine lv_iadd hx hb dL_law_1663 ?_
    refine lv_topi (fun y_27 ey_27 => ?_)
    obtain rfl : y_27 = 2 := ey_27.trans (by decide)
    refine va_sld hx hb hX hbl hbA hS (by rw [hL6]; unfold vp_in; decide) dL_law_1664 ?_
    refine lv_aload_n hx hb dL_law_1665 rfl (lv_at hl 3 rfl) ?_
    refine lv_iload_n hx hb dL_law_1666 rfl (lv_at hl 0 rfl) ?_
    refine lv_iconst (v := 3) hx hb dL_law_1667 (by decide) ?_
    refine lv_iadd hx hb dL_law_1668 ?_
    refine lv_topi (fun y_28 ey_28 => ?_)
    obtain rfl : y_28 = 3 := ey_28.trans (by decide)
    refine va_sld hx hb hX hbl hbA hS (by rw [hL6]; unfold vp_in; decide) dL_law_1669 ?_
    have hPc := hP.sub (ws' := [(hm_, .inr (12, [.int 0, .int 0, .ref (am 2), .ref (am 3), .ref (am 4), .int 0, .ref (am 6), .ref (am 7), .ref (am 8), .int 0, .ref (am 10), .ref (am 11), .ref (am 12), .ref (am 13), .ref (am 14), .ref (am 15), .int 0, .ref (am 17), .ref (am 18), .ref (am 19), .ref (am 20), .int 0, .ref (am 22), .int 0, .ref (am 24), .ref (am 25), .ref (am 26), .ref (am 27), .ref (am 28), .ref (am 29), .int 0, .ref (am 31), .ref (am 32), .ref (am 33), .int 0, .ref (am 35), .int 0, .ref (am 37), .ref (am 38), .ref (am 39), .ref (am 40), .ref (am 41), .ref (am 42), .ref (am 43), .int 0, .ref (am 45), .ref (am 46), .ref (am 47), .int 0, .ref (am 49), .int 0, .ref (am 51), .int 0, .ref (am 53), .ref (am 54), .int 1, .int 0, .ref (am 57), .long 0, .ref (am 59), .ref (am 60), .long 0, .int 0, .int 0, .int 0, .int 0, .int 0, .int 0, .ref (am 68), .int 0, .int 0, .ref (am 71), .ref (am 72), .ref (am 73), .ref (am 74), .ref (am 75), .ref (am 76), .ref (am 77), .ref (am 78)])), (am 75, .inl (cs 75, 4, .inl fs))]) [6, 7] rfl
    have hKc := hK.sub (tys' := [(cs 75, .int)]) [1] rfl
    refine vp_callSi (va_Run.run (va_runV (As := [.int (xs (1 : Int32).toNatClampNeg), .int (xs (2 : Int32).toNatClampNeg), .int (xs (3 : Int32).toNatClampNeg)]) (rest := [.int (-11)]) ⟨hx, hb, hml, hown, hts⟩ (rt_X12_cell l dC dI hm_ am cs fs (xs (1 : Int32).toNatClampNeg) (xs (2 : Int32).toNatClampNeg) (xs (3 : Int32).toNatClampNeg) hsrt) (cwV 3 hts gL_law_X12_cell rfl rfl rfl (by decide +kernel) ⟨Nat.le_of_ble_eq_true rfl, Nat.le_of_ble_eq_true rfl⟩) ⟨fun a U g mk q => by obtain ⟨q0, qP, qK⟩ := q; exact ⟨q0, qP, va_K.moved (u := U) (U := U.calling g mk a) (Vm.Alike.refl U.vm) qK⟩, va_recv hKc hPc (ci := 12) (q0 := 0) rfl rfl, fun U hU hW => ⟨rfl, by rw [hU]; exact hPc, va_K.moved hW.alike hKc⟩⟩ rfl rfl hl.1 rfl (lv_room (Nat.le_of_ble_eq_true rfl)) dL_law_1670 ⟨by decide +kernel, by decide +kernel⟩)) (fun r_29 hr_29 => ?_)
    have hq : ((-11) : Int32) = r_29 := by
      rcases hr_29 with ⟨a1, e1⟩ | ⟨a1, e1⟩ <;> first | (rw [e1]; done) | (exfalso; (try simp only [fa_lt, fa_le, fa_eq, fa_lt64, fa_le64, fa_eq64, Int32.reduceToInt, Int64.reduceToInt, zi_ite] at c_4); (try simp only [fa_lt, fa_le, fa_eq, fa_lt64, fa_le64, fa_eq64, Int32.reduceToInt, Int64.reduceToInt, zi_ite] at a1); omega)
    refine lv_icmp_eq (tgt := 1837) hx hb dL_law_1673 (by decide) (fun _ => ?_) (fun c9 => absurd hq c9)
    exact law_fin C0 hL6 hS (by decide +kernel) (by decide +kernel) ls (lv_sub hl [3, 2, 1, 0] rfl)
set_option maxHeartbeats 1000000 in
set_option maxRecDepth 100000 in
theorem law_b35 {p : Program} {l : Launch} {e : Env} {s : State} {m : MethodId} {below : List Frame} {meth : Method} {c : Code} {dC : Nat → ClassId} {dI : Nat → Nat → Nat} {b L : Nat} {xs : Nat → Int32} (C0 : lw_At p s m meth c b L xs) (hL6 : L = 6) {hc_ hm_ : Nat} {ad sa ai am : Nat → Nat} {cd cs : Nat → ClassId} {fs : Nat → Int32} (hsrt : ∀ j : Nat, j < 4 → fs j = -1) {H : Heap} {locs : List Loc} (hK : va_K (dC, dI) vwCl [(cd 8, .object RX7), (cs 75, .int)] s) (hP : va_P (dC, dI) vwCl [(hc_, .inr (11, [.ref (ad 0), .ref (ad 1), .ref (ad 2), .ref (ad 3), .ref (ad 4), .ref (ad 5), .ref (ad 6), .ref (ad 7), .ref (ad 8), .int 0, .int 0, .int 0, .int 0])), (ad 8, .inl (cd 8, 4, .inr (.inr (.inr (.inr (va_up (va_up (va_up (va_up (fun _ => none) 0 (some (sa 0))) 1 (some (sa 1))) 2 (some (sa 2))) 3 (some (sa 3)))))))), (sa 0, .inr (7, [.ref (ai 0), .int (-1), .int 0])), (sa 1, .inr (7, [.ref (ai 1), .int (-1), .int 0])), (sa 2, .inr (7, [.ref (ai 2), .int (-1), .int 0])), (sa 3, .inr (7, [.ref (ai 3), .int (-1), .int 0])), (hm_, .inr (12, [.int 0, .int 0, .ref (am 2), .ref (am 3), .ref (am 4), .int 0, .ref (am 6), .ref (am 7), .ref (am 8), .int 0, .ref (am 10), .ref (am 11), .ref (am 12), .ref (am 13), .ref (am 14), .ref (am 15), .int 0, .ref (am 17), .ref (am 18), .ref (am 19), .ref (am 20), .int 0, .ref (am 22), .int 0, .ref (am 24), .ref (am 25), .ref (am 26), .ref (am 27), .ref (am 28), .ref (am 29), .int 0, .ref (am 31), .ref (am 32), .ref (am 33), .int 0, .ref (am 35), .int 0, .ref (am 37), .ref (am 38), .ref (am 39), .ref (am 40), .ref (am 41), .ref (am 42), .ref (am 43), .int 0, .ref (am 45), .ref (am 46), .ref (am 47), .int 0, .ref (am 49), .int 0, .ref (am 51), .int 0, .ref (am 53), .ref (am 54), .int 1, .int 0, .ref (am 57), .long 0, .ref (am 59), .ref (am 60), .long 0, .int 0, .int 0, .int 0, .int 0, .int 0, .int 0, .ref (am 68), .int 0, .int 0, .ref (am 71), .ref (am 72), .ref (am 73), .ref (am 74), .ref (am 75), .ref (am 76), .ref (am 77), .ref (am 78)])), (am 75, .inl (cs 75, 4, .inl fs))] H) (hD : va_D (fun q : Nat => s.heap.size ≤ q) [(hc_, .inr (11, [.ref (ad 0), .ref (ad 1), .ref (ad 2), .ref (ad 3), .ref (ad 4), .ref (ad 5), .ref (ad 6), .ref (ad 7), .ref (ad 8), .int 0, .int 0, .int 0, .int 0])), (ad 8, .inl (cd 8, 4, .inr (.inr (.inr (.inr (va_up (va_up (va_up (va_up (fun _ => none) 0 (some (sa 0))) 1 (some (sa 1))) 2 (some (sa 2))) 3 (some (sa 3)))))))), (sa 0, .inr (7, [.ref (ai 0), .int (-1), .int 0])), (sa 1, .inr (7, [.ref (ai 1), .int (-1), .int 0])), (sa 2, .inr (7, [.ref (ai 2), .int (-1), .int 0])), (sa 3, .inr (7, [.ref (ai 3), .int (-1), .int 0])), (hm_, .inr (12, [.int 0, .int 0, .ref (am 2), .ref (am 3), .ref (am 4), .int 0, .ref (am 6), .ref (am 7), .ref (am 8), .int 0, .ref (am 10), .ref (am 11), .ref (am 12), .ref (am 13), .ref (am 14), .ref (am 15), .int 0, .ref (am 17), .ref (am 18), .ref (am 19), .ref (am 20), .int 0, .ref (am 22), .int 0, .ref (am 24), .ref (am 25), .ref (am 26), .ref (am 27), .ref (am 28), .ref (am 29), .int 0, .ref (am 31), .ref (am 32), .ref (am 33), .int 0, .ref (am 35), .int 0, .ref (am 37), .ref (am 38), .ref (am 39), .ref (am 40), .ref (am 41), .ref (am 42), .ref (am 43), .int 0, .ref (am 45), .ref (am 46), .ref (am 47), .int 0, .ref (am 49), .int 0, .ref (am 51), .int 0, .ref (am 53), .ref (am 54), .int 1, .int 0, .ref (am 57), .long 0, .ref (am 59), .ref (am 60), .long 0, .int 0, .int 0, .int 0, .int 0, .int 0, .int 0, .ref (am 68), .int 0, .int 0, .ref (am 71), .ref (am 72), .ref (am 73), .ref (am 74), .ref (am 75), .ref (am 76), .ref (am 77), .ref (am 78)])), (am 75, .inl (cs 75, 4, .inl fs))]) (hS : va_S (fun q : Nat => s.heap.size ≤ q) s.heap H locs) (ls : Array Slot) (hl : lv_has ls 4 [(3, .int 0), (2, .ref hm_), (1, .ref hc_), (0, .ref b)]) : W p l e room_1 s m #[Value.ref b] below meth c H locs 124 5628 (lw_Z below #[Value.ref b] s) (F0 m 1678 ls []) := by
  obtain ⟨hx, hb, hr, hml, hown, hts, hX, hbl, hlocks, hgv⟩ := id C0
  have hown : s.vm.findClass RL = some m.cls := hown
  have hb : c.code = cL_law := hb
  generalize hAe : (fun q : Nat => s.heap.size ≤ q) = A at hD hS 
  have hA : ∀ q : Nat, s.heap.size ≤ q → A q := fun q h => by rw [← hAe]; exact h
  have hbA : ¬ A b := by rw [← hAe]; exact Nat.not_le.mpr hbl
  refine lv_aload_n hx hb dL_law_1678 rfl (lv_at hl 2 rfl) ?_
  refine lv_aload_n hx hb dL_law_1679 rfl (lv_at hl 3 rfl) ?_
  refine lv_iload_n hx hb dL_law_1680 rfl (lv_at hl 0 rfl) ?_
  refine lv_iconst (v := 1) hx hb dL_law_1681 (by decide) ?_
  refine lv_iadd hx hb dL_law_1682 ?_
  refine lv_topi (fun y_1 ey_1 => ?_)
  obtain rfl : y_1 = 1 := ey_1.trans (by decide)
  refine va_sld hx hb hX hbl hbA hS (by rw [hL6]; unfold vp_in; decide) dL_law_1683 ?_
  refine lv_aload_n hx hb dL_law_1684 rfl (lv_at hl 3 rfl) ?_
  refine lv_iload_n hx hb dL_law_1685 rfl (lv_at hl 0 rfl) ?_
  refine lv_iconst (v := 2) hx hb dL_law_1686 (by decide) ?_
  refine lv_iadd hx hb dL_law_1687 ?_
  refine lv_topi (fun y_2 ey_2 => ?_)
  obtain rfl : y_2 = 2 := ey_2.trans (by decide)
  refine va_sld hx hb hX hbl hbA hS (by rw [hL6]; unfold vp_in; decide) dL_law_1688 ?_
  refine lv_aload_n hx hb dL_law_1689 rfl (lv_at hl 3 rfl) ?_
  refine lv_iload_n hx hb dL_law_1690 rfl (lv_at hl 0 rfl) ?_
  refine lv_iconst (v := 3) hx hb dL_law_1691 (by decide) ?_
  refine lv_iadd hx hb dL_law_1692 ?_
  refine lv_topi (fun y_3 ey_3 => ?_)
  obtain rfl : y_3 = 3 := ey_3.trans (by decide)
  refine va_sld hx hb hX hbl hbA hS (by rw [hL6]; unfold vp_in; decide) dL_law_1693 ?_
  refine lv_aload_n hx hb dL_law_1694 rfl (lv_at hl 3 rfl) ?_
  refine lv_iload_n hx hb dL_law_1695 rfl (lv_at hl 0 rfl) ?_
  refine lv_iconst (v := 4) hx hb dL_law_1696 (by decide) ?_
  refine lv_iadd hx hb dL_law_1697 ?_
  refine lv_topi (fun y_4 ey_4 => ?_)
  obtain rfl : y_4 = 4 := ey_4.trans (by decide)
  refine va_sld hx hb hX hbl hbA hS (by rw [hL6]; unfold vp_in; decide) dL_law_1698 ?_
  refine lv_aload_n hx hb dL_law_1699 rfl (lv_at hl 3 rfl) ?_
  refine lv_iload_n hx hb dL_law_1700 rfl (lv_at hl 0 rfl) ?_
  refine lv_iconst (v := 5) hx hb dL_law_1701 (by decide) ?_
  refine lv_iadd hx hb dL_law_1702 ?_
  refine lv_topi (fun y_5 ey_5 => ?_)
  obtain rfl : y_5 = 5 := ey_5.trans (by decide)
  refine va_sld hx hb hX hbl hbA hS (by rw [hL6]; unfold vp_in; decide) dL_law_1703 ?_
  rcases (show ((xs (1 : Int32).toNatClampNeg).toInt < 0 ∨ 4 ≤ (xs (1 : Int32).toNatClampNeg).toInt) ∨ (xs (1 : Int32).toNatClampNeg) = 0 ∨ (xs (1 : Int32).toNatClampNeg) = 1 ∨ (xs (1 : Int32).toNatClampNeg) = 2 ∨ (xs (1 : Int32).toNatClampNeg) = 3 by simp only [fa_eq, Int32.reduceToInt]; omega) with c_6 | c_6 | c_6 | c_6 | c_6
  · rcases (show ((xs (3 : Int32).toNatClampNeg).toInt < 0 ∨ 4 ≤ (xs (3 : Int32).toNatClampNeg).toInt) ∨ (xs (3 : Int32).toNatClampNeg) = 0 ∨ (xs (3 : Int32).toNatClampNeg) = 1 ∨ (xs (3 : Int32).toNatClampNeg) = 2 ∨ (xs (3 : Int32).toNatClampNeg) = 3 by simp only [fa_eq, Int32.reduceToInt]; omega) with c_7 | c_7 | c_7 | c_7 | c_7
    · have hPc := hP.sub (ws' := [(hc_, .inr (11, [.ref (ad 0), .ref (ad 1), .ref (ad 2), .ref (ad 3), .ref (ad 4), .ref (ad 5), .ref (ad 6), .ref (ad 7), .ref (ad 8), .int 0, .int 0, .int 0, .int 0])), (ad 8, .inl (cd 8, 4, .inr (.inr (.inr (.inr (va_up (va_up (va_up (va_up (fun _ => none) 0 (some (sa 0))) 1 (some (sa 1))) 2 (some (sa 2))) 3 (some (sa 3))))))))]) [0, 1] rfl
      have hKc := hK.sub (tys' := [(cd 8, .object RX7)]) [0] rfl
      refine vp_callSi (va_Run.run (va_runV (As := [.int (xs (1 : Int32).toNatClampNeg), .int (xs (2 : Int32).toNatClampNeg), .int (xs (3 : Int32).toNatClampNeg), .int (xs (4 : Int32).toNatClampNeg), .int (xs (5 : Int32).toNatClampNeg)]) (rest := []) ⟨hx, hb, hml, hown, hts⟩ (rt_X11_copyOO l dC dI hc_ ad (cd 8) (va_up (va_up (va_up (va_up (fun _ => none) 0 (some (sa 0))) 1 (some (sa 1))) 2 (some (sa 2))) 3 (some (sa 3))) (xs (1 : Int32).toNatClampNeg) (xs (2 : Int32).toNatClampNeg) (xs (3 : Int32).toNatClampNeg) (xs (4 : Int32).toNatClampNeg) (xs (5 : Int32).toNatClampNeg) c_6 c_7) (cwV 5 hts gL_law_X11_copy rfl rfl rfl (by decide +kernel) ⟨Nat.le_of_ble_eq_true rfl, Nat.le_of_ble_eq_true rfl⟩) ⟨fun a U g mk q => by obtain ⟨q0, qP, qK⟩ := q; exact ⟨q0, qP, va_K.moved (u := U) (U := U.calling g mk a) (Vm.Alike.refl U.vm) qK⟩, va_recv hKc hPc (ci := 11) (q0 := 0) rfl rfl, fun U hU hW => ⟨rfl, by rw [hU]; exact hPc, va_K.moved hW.alike hKc⟩⟩ rfl rfl hl.1 rfl (lv_room (Nat.le_of_ble_eq_true rfl)) dL_law_1704 ⟨by decide +kernel, by decide +kernel⟩)) (fun r_8 hr_8 => ?_)
      obtain rfl := hr_8
      refine lv_aload_n hx hb dL_law_1707 rfl (lv_at hl 1 rfl) ?_
      refine lv_aload_n hx hb dL_law_1708 rfl (lv_at hl 3 rfl) ?_
      refine lv_iload_n hx hb dL_law_1709 rfl (lv_at hl 0 rfl) ?_
      refine lv_iconst (v := 1) hx hb dL_law_1710 (by decide) ?_
      refine lv_iadd hx hb dL_law_1711 ?_
      refine lv_topi (fun y_9 ey_9 => ?_)
      obtain rfl : y_9 = 1 := ey_9.trans (by decide)
      refine va_sld hx hb hX hbl hbA hS (by rw [hL6]; unfold vp_in; decide) dL_law_1712 ?_
      refine lv_aload_n hx hb dL_law_1713 rfl (lv_at hl 3 rfl) ?_
      refine lv_iload_n hx hb dL_law_1714 rfl (lv_at hl 0 rfl) ?_
      refine lv_iconst (v := 2) hx hb dL_law_1715 (by decide) ?_
      refine lv_iadd hx hb dL_law_1716 ?_
      refine lv_topi (fun y_10 ey_10 => ?_)
      obtain rfl : y_10 = 2 := ey_10.trans (by decide)
      refine va_sld hx hb hX hbl hbA hS (by rw [hL6]; unfold vp_in; decide) dL_law_1717 ?_
      refine lv_aload_n hx hb dL_law_1718 rfl (lv_at hl 3 rfl) ?_
      refine lv_iload_n hx hb dL_law_1719 rfl (lv_at hl 0 rfl) ?_
      refine lv_iconst (v := 3) hx hb dL_law_1720 (by decide) ?_
      refine lv_iadd hx hb dL_law_1721 ?_
      refine lv_topi (fun y_11 ey_11 => ?_)
      obtain rfl : y_11 = 3 := ey_11.trans (by decide)
      refine va_sld hx hb hX hbl hbA hS (by rw [hL6]; unfold vp_in; decide) dL_law_1722 ?_
      refine lv_aload_n hx hb dL_law_1723 rfl (lv_at hl 3 rfl) ?_
      refine lv_iload_n hx hb dL_law_1724 rfl (lv_at hl 0 rfl) ?_
      refine lv_iconst (v := 4) hx hb dL_law_1725 (by decide) ?_
      refine lv_iadd hx hb dL_law_1726 ?_
      refine lv_topi (fun y_12 ey_12 => ?_)
      obtain rfl : y_12 = 4 := ey_12.trans (by decide)
      refine va_sld hx hb hX hbl hbA hS (by rw [hL6]; unfold vp_in; decide) dL_law_1727 ?_
      refine lv_aload_n hx hb dL_law_1728 rfl (lv_at hl 3 rfl) ?_
      refine lv_iload_n hx hb dL_law_1729 rfl (lv_at hl 0 rfl) ?_
      refine lv_iconst (v := 5) hx hb dL_law_1730 (by decide) ?_
      refine lv_iadd hx hb dL_law_1731 ?_
      refine lv_topi (fun y_13 ey_13 => ?_)
      obtain rfl : y_13 = 5 := ey_13.trans (by decide)
      refine va_sld hx hb hX hbl hbA hS (by rw [hL6]; unfold vp_in; decide) dL_law_1732 ?_
      have hPc := hP.sub (ws' := [(hm_, .inr (12, [.int 0, .int 0, .ref (am 2), .ref (am 3), .ref (am 4), .int 0, .ref (am 6), .ref (am 7), .ref (am 8), .int 0, .ref (am 10), .ref (am 11), .ref (am 12), .ref (am 13), .ref (am 14), .ref (am 15), .int 0, .ref (am 17), .ref (am 18), .ref (am 19), .ref (am 20), .int 0, .ref (am 22), .int 0, .ref (am 24), .ref (am 25), .ref (am 26), .ref (am 27), .ref (am 28), .ref (am 29), .int 0, .ref (am 31), .ref (am 32), .ref (am 33), .int 0, .ref (am 35), .int 0, .ref (am 37), .ref (am 38), .ref (am 39), .ref (am 40), .ref (am 41), .ref (am 42), .ref (am 43), .int 0, .ref (am 45), .ref (am 46), .ref (am 47), .int 0, .ref (am 49), .int 0, .ref (am 51), .int 0, .ref (am 53), .ref (am 54), .int 1, .int 0, .ref (am 57), .long 0, .ref (am 59), .ref (am 60), .long 0, .int 0, .int 0, .int 0, .int 0, .int 0, .int 0, .ref (am 68), .int 0, .int 0, .ref (am 71), .ref (am 72), .ref (am 73), .ref (am 74), .ref (am 75), .ref (am 76), .ref (am 77), .ref (am 78)])), (am 75, .inl (cs 75, 4, .inl fs))]) [6, 7] rfl
      have hKc := hK.sub (tys' := [(cs 75, .int)]) [1] rfl
      refine vp_callSi (va_Run.run (va_runV (As := [.int (xs (1 : Int32).toNatClampNeg), .int (xs (2 : Int32).toNatClampNeg), .int (xs (3 : Int32).toNatClampNeg), .int (xs (4 : Int32).toNatClampNeg), .int (xs (5 : Int32).toNatClampNeg)]) (rest := [.int (-2)]) ⟨hx, hb, hml, hown, hts⟩ (rt_X12_copy l dC dI hm_ am cs fs (xs (1 : Int32).toNatClampNeg) (xs (2 : Int32).toNatClampNeg) (xs (3 : Int32).toNatClampNeg) (xs (4 : Int32).toNatClampNeg) (xs (5 : Int32).toNatClampNeg) hsrt) (cwV 5 hts gL_law_X12_copy rfl rfl rfl (by decide +kernel) ⟨Nat.le_of_ble_eq_true rfl, Nat.le_of_ble_eq_true rfl⟩) ⟨fun a U g mk q => by obtain ⟨q0, qP, qK⟩ := q; exact ⟨q0, qP, va_K.moved (u := U) (U := U.calling g mk a) (Vm.Alike.refl U.vm) qK⟩, va_recv hKc hPc (ci := 12) (q0 := 0) rfl rfl, fun U hU hW => ⟨rfl, by rw [hU]; exact hPc, va_K.moved hW.alike hKc⟩⟩ rfl rfl hl.1 rfl (lv_room (Nat.le_of_ble_eq_true rfl)) dL_law_1733 ⟨by decide +kernel, by decide +kernel⟩)) (fun r_14 hr_14 => ?_)
      have hq : ((-2) : Int32) = r_14 := by
        rcases hr_14 with ⟨a1, e1⟩ | ⟨a1, e1⟩ <;> first | (rw [e1]; done) | (exfalso; (try simp only [fa_lt, fa_le, fa_eq, fa_lt64, fa_le64, fa_eq64, Int32.reduceToInt, Int64.reduceToInt, zi_ite] at c_6); (try simp only [fa_lt, fa_le, fa_eq, fa_lt64, fa_le64, fa_eq64, Int32.reduceToInt, Int64.reduceToInt, zi_ite] at c_7); (try simp only [fa_lt, fa_le, fa_eq, fa_lt64, fa_le64, fa_eq64, Int32.reduceToInt, Int64.reduceToInt, zi_ite] at a1); omega)
      refine lv_icmp_eq (tgt := 1837) hx hb dL_law_1736 (by decide) (fun _ => ?_) (fun c9 => absurd hq c9)
      exact law_fin C0 hL6 hS (by decide +kernel) (by decide +kernel) ls (lv_sub hl [3, 2, 1, 0] rfl)
    · have hPc := hP.sub (ws' := [(hc_, .inr (11, [.ref (ad 0), .ref (ad 1), .ref (ad 2), .ref (ad 3), .ref (ad 4), .ref (ad 5), .ref (ad 6), .ref (ad 7), .ref (ad 8), .int 0, .int 0, .int 0, .int 0])), (ad 8, .inl (cd 8, 4, .inr (.inr (.inr (.inr (va_up (va_up (va_up (va_up (fun _ => none) 0 (some (sa 0))) 1 (some (sa 1))) 2 (some (sa 2))) 3 (some (sa 3))))))))]) [0, 1] rfl
      have hKc := hK.sub (tys' := [(cd 8, .object RX7)]) [0] rfl
      refine vp_callSi (va_Run.run (va_runV (As := [.int (xs (1 : Int32).toNatClampNeg), .int (xs (2 : Int32).toNatClampNeg), .int (xs (3 : Int32).toNatClampNeg), .int (xs (4 : Int32).toNatClampNeg), .int (xs (5 : Int32).toNatClampNeg)]) (rest := []) ⟨hx, hb, hml, hown, hts⟩ (rt_X11_copyOI l dC dI hc_ ad (cd 8) (va_up (va_up (va_up (va_up (fun _ => none) 0 (some (sa 0))) 1 (some (sa 1))) 2 (some (sa 2))) 3 (some (sa 3))) (sa 0) (xs (1 : Int32).toNatClampNeg) (xs (2 : Int32).toNatClampNeg) (xs (3 : Int32).toNatClampNeg) (xs (4 : Int32).toNatClampNeg) (xs (5 : Int32).toNatClampNeg) c_6 (by rw [c_7]; decide) (by rw [c_7]; rfl)) (cwV 5 hts gL_law_X11_copy rfl rfl rfl (by decide +kernel) ⟨Nat.le_of_ble_eq_true rfl, Nat.le_of_ble_eq_true rfl⟩) ⟨fun a U g mk q => by obtain ⟨q0, qP, qK⟩ := q; exact ⟨q0, qP, va_K.moved (u := U) (U := U.calling g mk a) (Vm.Alike.refl U.vm) qK⟩, va_recv hKc hPc (ci := 11) (q0 := 0) rfl rfl, fun U hU hW => ⟨rfl, by rw [hU]; exact hPc, va_K.moved hW.alike hKc⟩⟩ rfl rfl hl.1 rfl (lv_room (Nat.le_of_ble_eq_true rfl)) dL_law_1704 ⟨by decide +kernel, by decide +kernel⟩)) (fun r_15 hr_15 => ?_)
      obtain rfl := hr_15
      refine lv_aload_n hx hb dL_law_1707 rfl (lv_at hl 1 rfl) ?_
      refine lv_aload_n hx hb dL_law_1708 rfl (lv_at hl 3 rfl) ?_
      refine lv_iload_n hx hb dL_law_1709 rfl (lv_at hl 0 rfl) ?_
      refine lv_iconst (v := 1) hx hb dL_law_1710 (by decide) ?_
      refine lv_iadd hx hb dL_law_1711 ?_
      refine lv_topi (fun y_16 ey_16 => ?_)
      obtain rfl : y_16 = 1 := ey_16.trans (by decide)
      refine va_sld hx hb hX hbl hbA hS (by rw [hL6]; unfold vp_in; decide) dL_law_1712 ?_
      refine lv_aload_n hx hb dL_law_1713 rfl (lv_at hl 3 rfl) ?_
      refine lv_iload_n hx hb dL_law_1714 rfl (lv_at hl 0 rfl) ?_
      refine lv_iconst (v := 2) hx hb dL_law_1715 (by decide) ?_
      refine lv_iadd hx hb dL_law_1716 ?_
      refine lv_topi (fun y_17 ey_17 => ?_)
      obtain rfl : y_17 = 2 := ey_17.trans (by decide)
      refine va_sld hx hb hX hbl hbA hS (by rw [hL6]; unfold vp_in; decide) dL_law_1717 ?_
      refine lv_aload_n hx hb dL_law_1718 rfl (lv_at hl 3 rfl) ?_
      refine lv_iload_n hx hb dL_law_1719 rfl (lv_at hl 0 rfl) ?_
      refine lv_iconst (v := 3) hx hb dL_law_1720 (by decide) ?_
      refine lv_iadd hx hb dL_law_1721 ?_
      refine lv_topi (fun y_18 ey_18 => ?_)
      obtain rfl : y_18 = 3 := ey_18.trans (by decide)
      refine va_sld hx hb hX hbl hbA hS (by rw [hL6]; unfold vp_in; decide) dL_law_1722 ?_
      refine lv_aload_n hx hb dL_law_1723 rfl (lv_at hl 3 rfl) ?_
      refine lv_iload_n hx hb dL_law_1724 rfl (lv_at hl 0 rfl) ?_
      refine lv_iconst (v := 4) hx hb dL_law_1725 (by decide) ?_
      refine lv_iadd hx hb dL_law_1726 ?_
      refine lv_topi (fun y_19 ey_19 => ?_)
      obtain rfl : y_19 = 4 := ey_19.trans (by decide)
      refine va_sld hx hb hX hbl hbA hS (by rw [hL6]; unfold vp_in; decide) dL_law_1727 ?_
      refine lv_aload_n hx hb dL_law_1728 rfl (lv_at hl 3 rfl) ?_
      refine lv_iload_n hx hb dL_law_1729 rfl (lv_at hl 0 rfl) ?_
      refine lv_iconst (v := 5) hx hb dL_law_1730 (by decide) ?_
      refine lv_iadd hx hb dL_law_1731 ?_
      refine lv_topi (fun y_20 ey_20 => ?_)
      obtain rfl : y_20 = 5 := ey_20.trans (by decide)
      refine va_sld hx hb hX hbl hbA hS (by rw [hL6]; unfold vp_in; decide) dL_law_1732 ?_
      have hPc := hP.sub (ws' := [(hm_, .inr (12, [.int 0, .int 0, .ref (am 2), .ref (am 3), .ref (am 4), .int 0, .ref (am 6), .ref (am 7), .ref (am 8), .int 0, .ref (am 10), .ref (am 11), .ref (am 12), .ref (am 13), .ref (am 14), .ref (am 15), .int 0, .ref (am 17), .ref (am 18), .ref (am 19), .ref (am 20), .int 0, .ref (am 22), .int 0, .ref (am 24), .ref (am 25), .ref (am 26), .ref (am 27), .ref (am 28), .ref (am 29), .int 0, .ref (am 31), .ref (am 32), .ref (am 33), .int 0, .ref (am 35), .int 0, .ref (am 37), .ref (am 38), .ref (am 39), .ref (am 40), .ref (am 41), .ref (am 42), .ref (am 43), .int 0, .ref (am 45), .ref (am 46), .ref (am 47), .int 0, .ref (am 49), .int 0, .ref (am 51), .int 0, .ref (am 53), .ref (am 54), .int 1, .int 0, .ref (am 57), .long 0, .ref (am 59), .ref (am 60), .long 0, .int 0, .int 0, .int 0, .int 0, .int 0, .int 0, .ref (am 68), .int 0, .int 0, .ref (am 71), .ref (am 72), .ref (am 73), .ref (am 74), .ref (am 75), .ref (am 76), .ref (am 77), .ref (am 78)])), (am 75, .inl (cs 75, 4, .inl fs))]) [6, 7] rfl
      have hKc := hK.sub (tys' := [(cs 75, .int)]) [1] rfl
      refine vp_callSi (va_Run.run (va_runV (As := [.int (xs (1 : Int32).toNatClampNeg), .int (xs (2 : Int32).toNatClampNeg), .int (xs (3 : Int32).toNatClampNeg), .int (xs (4 : Int32).toNatClampNeg), .int (xs (5 : Int32).toNatClampNeg)]) (rest := [.int (-2)]) ⟨hx, hb, hml, hown, hts⟩ (rt_X12_copy l dC dI hm_ am cs fs (xs (1 : Int32).toNatClampNeg) (xs (2 : Int32).toNatClampNeg) (xs (3 : Int32).toNatClampNeg) (xs (4 : Int32).toNatClampNeg) (xs (5 : Int32).toNatClampNeg) hsrt) (cwV 5 hts gL_law_X12_copy rfl rfl rfl (by decide +kernel) ⟨Nat.le_of_ble_eq_true rfl, Nat.le_of_ble_eq_true rfl⟩) ⟨fun a U g mk q => by obtain ⟨q0, qP, qK⟩ := q; exact ⟨q0, qP, va_K.moved (u := U) (U := U.calling g mk a) (Vm.Alike.refl U.vm) qK⟩, va_recv hKc hPc (ci := 12) (q0 := 0) rfl rfl, fun U hU hW => ⟨rfl, by rw [hU]; exact hPc, va_K.moved hW.alike hKc⟩⟩ rfl rfl hl.1 rfl (lv_room (Nat.le_of_ble_eq_true rfl)) dL_law_1733 ⟨by decide +kernel, by decide +kernel⟩)) (fun r_21 hr_21 => ?_)
      have hq : ((-2) : Int32) = r_21 := by
        rcases hr_21 with ⟨a1, e1⟩ | ⟨a1, e1⟩ <;> first | (rw [e1]; done) | (exfalso; (try simp only [fa_lt, fa_le, fa_eq, fa_lt64, fa_le64, fa_eq64, Int32.reduceToInt, Int64.reduceToInt, zi_ite] at c_6); (try simp only [fa_lt, fa_le, fa_eq, fa_lt64, fa_le64, fa_eq64, Int32.reduceToInt, Int64.reduceToInt, zi_ite] at c_7); (try simp only [fa_lt, fa_le, fa_eq, fa_lt64, fa_le64, fa_eq64, Int32.reduceToInt, Int64.reduceToInt, zi_ite] at a1); omega)
      refine lv_icmp_eq (tgt := 1837) hx hb dL_law_1736 (by decide) (fun _ => ?_) (fun c9 => absurd hq c9)
      exact law_fin C0 hL6 hS (by decide +kernel) (by decide +kernel) ls (lv_sub hl [3, 2, 1, 0] rfl)
    · have hPc := hP.sub (ws' := [(hc_, .inr (11, [.ref (ad 0), .ref (ad 1), .ref (ad 2), .ref (ad 3), .ref (ad 4), .ref (ad 5), .ref (ad 6), .ref (ad 7), .ref (ad 8), .int 0, .int 0, .int 0, .int 0])), (ad 8, .inl (cd 8, 4, .inr (.inr (.inr (.inr (va_up (va_up (va_up (va_up (fun _ => none) 0 (some (sa 0))) 1 (some (sa 1))) 2 (some (sa 2))) 3 (some (sa 3))))))))]) [0, 1] rfl
      have hKc := hK.sub (tys' := [(cd 8, .object RX7)]) [0] rfl
      refine vp_callSi (va_Run.run (va_runV (As := [.int (xs (1 : Int32).toNatClampNeg), .int (xs (2 : Int32).toNatClampNeg), .int (xs (3 : Int32).toNatClampNeg), .int (xs (4 : Int32).toNatClampNeg), .int (xs (5 : Int32).toNatClampNeg)]) (rest := []) ⟨hx, hb, hml, hown, hts⟩ (rt_X11_copyOI l dC dI hc_ ad (cd 8) (va_up (va_up (va_up (va_up (fun _ => none) 0 (some (sa 0))) 1 (some (sa 1))) 2 (some (sa 2))) 3 (some (sa 3))) (sa 1) (xs (1 : Int32).toNatClampNeg) (xs (2 : Int32).toNatClampNeg) (xs (3 : Int32).toNatClampNeg) (xs (4 : Int32).toNatClampNeg) (xs (5 : Int32).toNatClampNeg) c_6 (by rw [c_7]; decide) (by rw [c_7]; rfl)) (cwV 5 hts gL_law_X11_copy rfl rfl rfl (by decide +kernel) ⟨Nat.le_of_ble_eq_true rfl, Nat.le_of_ble_eq_true rfl⟩) ⟨fun a U g mk q => by obtain ⟨q0, qP, qK⟩ := q; exact ⟨q0, qP, va_K.moved (u := U) (U := U.calling g mk a) (Vm.Alike.refl U.vm) qK⟩, va_recv hKc hPc (ci := 11) (q0 := 0) rfl rfl, fun U hU hW => ⟨rfl, by rw [hU]; exact hPc, va_K.moved hW.alike hKc⟩⟩ rfl rfl hl.1 rfl (lv_room (Nat.le_of_ble_eq_true rfl)) dL_law_1704 ⟨by decide +kernel, by decide +kernel⟩)) (fun r_22 hr_22 => ?_)
      obtain rfl := hr_22
      refine lv_aload_n hx hb dL_law_1707 rfl (lv_at hl 1 rfl) ?_
      refine lv_aload_n hx hb dL_law_1708 rfl (lv_at hl 3 rfl) ?_
      refine lv_iload_n hx hb dL_law_1709 rfl (lv_at hl 0 rfl) ?_
      refine lv_iconst (v := 1) hx hb dL_law_1710 (by decide) ?_
      refine lv_iadd hx hb dL_law_1711 ?_
      refine lv_topi (fun y_23 ey_23 => ?_)
      obtain rfl : y_23 = 1 := ey_23.trans (by decide)
      refine va_sld hx hb hX hbl hbA hS (by rw [hL6]; unfold vp_in; decide) dL_law_1712 ?_
      refine lv_aload_n hx hb dL_law_1713 rfl (lv_at hl 3 rfl) ?_
      refine lv_iload_n hx hb dL_law_1714 rfl (lv_at hl 0 rfl) ?_
      refine lv_iconst (v := 2) hx hb dL_law_1715 (by decide) ?_
      refine lv_iadd hx hb dL_law_1716 ?_
      refine lv_topi (fun y_24 ey_24 => ?_)
      obtain rfl : y_24 = 2 := ey_24.trans (by decide)
      refine va_sld hx hb hX hbl hbA hS (by rw [hL6]; unfold vp_in; decide) dL_law_1717 ?_
      refine lv_aload_n hx hb dL_law_1718 rfl (lv_at hl 3 rfl) ?_
      refine lv_iload_n hx hb dL_law_1719 rfl (lv_at hl 0 rfl) ?_
      refine lv_iconst (v := 3) hx hb dL_law_1720 (by decide) ?_
      refine lv_iadd hx hb dL_law_1721 ?_
      refine lv_topi (fun y_25 ey_25 => ?_)
      obtain rfl : y_25 = 3 := ey_25.trans (by decide)
      refine va_sld hx hb hX hbl hbA hS (by rw [hL6]; unfold vp_in; decide) dL_law_1722 ?_
      refine lv_aload_n hx hb dL_law_1723 rfl (lv_at hl 3 rfl) ?_
      refine lv_iload_n hx hb dL_law_1724 rfl (lv_at hl 0 rfl) ?_
      refine lv_iconst (v := 4) hx hb dL_law_1725 (by decide) ?_
      refine lv_iadd hx hb dL_law_1726 ?_
      refine lv_topi (fun y_26 ey_26 => ?_)
      obtain rfl : y_26 = 4 := ey_26.trans (by decide)
      refine va_sld hx hb hX hbl hbA hS (by rw [hL6]; unfold vp_in; decide) dL_law_1727 ?_
      refine lv_aload_n hx hb dL_law_1728 rfl (lv_at hl 3 rfl) ?_
      refine lv_iload_n hx hb dL_law_1729 rfl (lv_at hl 0 rfl) ?_
      refine lv_iconst (v := 5) hx hb dL_law_1730 (by decide) ?_
      refine lv_iadd hx hb dL_law_1731 ?_
      refine lv_topi (fun y_27 ey_27 => ?_)
      obtain rfl : y_27 = 5 := ey_27.trans (by decide)
      refine va_sld hx hb hX hbl hbA hS (by rw [hL6]; unfold vp_in; decide) dL_law_1732 ?_
      have hPc := hP.sub (ws' := [(hm_, .inr (12, [.int 0, .int 0, .ref (am 2), .ref (am 3), .ref (am 4), .int 0, .ref (am 6), .ref (am 7), .ref (am 8), .int 0, .ref (am 10), .ref (am 11), .ref (am 12), .ref (am 13), .ref (am 14), .ref (am 15), .int 0, .ref (am 17), .ref (am 18), .ref (am 19), .ref (am 20), .int 0, .ref (am 22), .int 0, .ref (am 24), .ref (am 25), .ref (am 26), .ref (am 27), .ref (am 28), .ref (am 29), .int 0, .ref (am 31), .ref (am 32), .ref (am 33), .int 0, .ref (am 35), .int 0, .ref (am 37), .ref (am 38), .ref (am 39), .ref (am 40), .ref (am 41), .ref (am 42), .ref (am 43), .int 0, .ref (am 45), .ref (am 46), .ref (am 47), .int 0, .ref (am 49), .int 0, .ref (am 51), .int 0, .ref (am 53), .ref (am 54), .int 1, .int 0, .ref (am 57), .long 0, .ref (am 59), .ref (am 60), .long 0, .int 0, .int 0, .int 0, .int 0, .int 0, .int 0, .ref (am 68), .int 0, .int 0, .ref (am 71), .ref (am 72), .ref (am 73), .ref (am 74), .ref (am 75), .ref (am 76), .ref (am 77), .ref (am 78)])), (am 75, .inl (cs 75, 4, .inl fs))]) [6, 7] rfl
      have hKc := hK.sub (tys' := [(cs 75, .int)]) [1] rfl
      refine vp_callSi (va_Run.run (va_runV (As := [.int (xs (1 : Int32).toNatClampNeg), .int (xs (2 : Int32).toNatClampNeg), .int (xs (3 : Int32).toNatClampNeg), .int (xs (4 : Int32).toNatClampNeg), .int (xs (5 : Int32).toNatClampNeg)]) (rest := [.int (-2)]) ⟨hx, hb, hml, hown, hts⟩ (rt_X12_copy l dC dI hm_ am cs fs (xs (1 : Int32).toNatClampNeg) (xs (2 : Int32).toNatClampNeg) (xs (3 : Int32).toNatClampNeg) (xs (4 : Int32).toNatClampNeg) (xs (5 : Int32).toNatClampNeg) hsrt) (cwV 5 hts gL_law_X12_copy rfl rfl rfl (by decide +kernel) ⟨Nat.le_of_ble_eq_true rfl, Nat.le_of_ble_eq_true rfl⟩) ⟨fun a U g mk q => by obtain ⟨q0, qP, qK⟩ := q; exact ⟨q0, qP, va_K.moved (u := U) (U := U.calling g mk a) (Vm.Alike.refl U.vm) qK⟩, va_recv hKc hPc (ci := 12) (q0 := 0) rfl rfl, fun U hU hW => ⟨rfl, by rw [hU]; exact hPc, va_K.moved hW.alike hKc⟩⟩ rfl rfl hl.1 rfl (lv_room (Nat.le_of_ble_eq_true rfl)) dL_law_1733 ⟨by decide +kernel, by decide +kernel⟩)) (fun r_28 hr_28 => ?_)
      have hq : ((-2) : Int32) = r_28 := by
        rcases hr_28 with ⟨a1, e1⟩ | ⟨a1, e1⟩ <;> first | (rw [e1]; done) | (exfalso; (try simp only [fa_lt, fa_le, fa_eq, fa_lt64, fa_le64, fa_eq64, Int32.reduceToInt, Int64.reduceToInt, zi_ite] at c_6); (try simp only [fa_lt, fa_le, fa_eq, fa_lt64, fa_le64, fa_eq64, Int32.reduceToInt, Int64.reduceToInt, zi_ite] at c_7); (try simp only [fa_lt, fa_le, fa_eq, fa_lt64, fa_le64, fa_eq64, Int32.reduceToInt, Int64.reduceToInt, zi_ite] at a1); omega)
      refine lv_icmp_eq (tgt := 1837) hx hb dL_law_1736 (by decide) (fun _ => ?_) (fun c9 => absurd hq c9)
      exact law_fin C0 hL6 hS (by decide +kernel) (by decide +kernel) ls (lv_sub hl [3, 2, 1, 0] rfl)
    · have hPc := hP.sub (ws' := [(hc_, .inr (11, [.ref (ad 0), .ref (ad 1), .ref (ad 2), .ref (ad 3), .ref (ad 4), .ref (ad 5), .ref (ad 6), .ref (ad 7), .ref (ad 8), .int 0, .int 0, .int 0, .int 0])), (ad 8, .inl (cd 8, 4, .inr (.inr (.inr (.inr (va_up (va_up (va_up (va_up (fun _ => none) 0 (some (sa 0))) 1 (some (sa 1))) 2 (some (sa 2))) 3 (some (sa 3))))))))]) [0, 1] rfl
      have hKc := hK.sub (tys' := [(cd 8, .object RX7)]) [0] rfl
      refine vp_callSi (va_Run.run (va_runV (As := [.int (xs (1 : Int32).toNatClampNeg), .int (xs (2 : Int32).toNatClampNeg), .int (xs (3 : Int32).toNatClampNeg), .int (xs (4 : Int32).toNatClampNeg), .int (xs (5 : Int32).toNatClampNeg)]) (rest := []) ⟨hx, hb, hml, hown, hts⟩ (rt_X11_copyOI l dC dI hc_ ad (cd 8) (va_up (va_up (va_up (va_up (fun _ => none) 0 (some (sa 0))) 1 (some (sa 1))) 2 (some (sa 2))) 3 (some (sa 3))) (sa 2) (xs (1 : Int32).toNatClampNeg) (xs (2 : Int32).toNatClampNeg) (xs (3 : Int32).toNatClampNeg) (xs (4 : Int32).toNatClampNeg) (xs (5 : Int32).toNatClampNeg) c_6 (by rw [c_7]; decide) (by rw [c_7]; rfl)) (cwV 5 hts gL_law_X11_copy rfl rfl rfl (by decide +kernel) ⟨Nat.le_of_ble_eq_true rfl, Nat.le_of_ble_eq_true rfl⟩) ⟨fun a U g mk q => by obtain ⟨q0, qP, qK⟩ := q; exact ⟨q0, qP, va_K.moved (u := U) (U := U.calling g mk a) (Vm.Alike.refl U.vm) qK⟩, va_recv hKc hPc (ci := 11) (q0 := 0) rfl rfl, fun U hU hW => ⟨rfl, by rw [hU]; exact hPc, va_K.moved hW.alike hKc⟩⟩ rfl rfl hl.1 rfl (lv_room (Nat.le_of_ble_eq_true rfl)) dL_law_1704 ⟨by decide +kernel, by decide +kernel⟩)) (fun r_29 hr_29 => ?_)
      obtain rfl := hr_29
      refine lv_aload_n hx hb dL_law_1707 rfl (lv_at hl 1 rfl) ?_
      refine lv_aload_n hx hb dL_law_1708 rfl (lv_at hl 3 rfl) ?_
      refine lv_iload_n hx hb dL_law_1709 rfl (lv_at hl 0 rfl) ?_
      refine lv_iconst (v := 1) hx hb dL_law_1710 (by decide) ?_
      refine lv_iadd hx hb dL_law_1711 ?_
      refine lv_topi (fun y_30 ey_30 => ?_)
      obtain rfl : y_30 = 1 := ey_30.trans (by decide)
      refine va_sld hx hb hX hbl hbA hS (by rw [hL6]; unfold vp_in; decide) dL_law_1712 ?_
      refine lv_aload_n hx hb dL_law_1713 rfl (lv_at hl 3 rfl) ?_
      refine lv_iload_n hx hb dL_law_1714 rfl (lv_at hl 0 rfl) ?_
      refine lv_iconst (v := 2) hx hb dL_law_1715 (by decide) ?_
      refine lv_iadd hx hb dL_law_1716 ?_
      refine lv_topi (fun y_31 ey_31 => ?_)
      obtain rfl : y_31 = 2 := ey_31.trans (by decide)
      refine va_sld hx hb hX hbl hbA hS (by rw [hL6]; unfold vp_in; decide) dL_law_1717 ?_
      refine lv_aload_n hx hb dL_law_1718 rfl (lv_at hl 3 rfl) ?_
      refine lv_iload_n hx hb dL_law_1719 rfl (lv_at hl 0 rfl) ?_
      refine lv_iconst (v := 3) hx hb dL_law_1720 (by decide) ?_
      refine lv_iadd hx hb dL_law_1721 ?_
      refine lv_topi (fun y_32 ey_32 => ?_)
      obtain rfl : y_32 = 3 := ey_32.trans (by decide)
      refine va_sld hx hb hX hbl hbA hS (by rw [hL6]; unfold vp_in; decide) dL_law_1722 ?_
      refine lv_aload_n hx hb dL_law_1723 rfl (lv_at hl 3 rfl) ?_
      refine lv_iload_n hx hb dL_law_1724 rfl (lv_at hl 0 rfl) ?_
      refine lv_iconst (v := 4) hx hb dL_law_1725 (by decide) ?_
      refine lv_iadd hx hb dL_law_1726 ?_
      refine lv_topi (fun y_33 ey_33 => ?_)
      obtain rfl : y_33 = 4 := ey_33.trans (by decide)
      refine va_sld hx hb hX hbl hbA hS (by rw [hL6]; unfold vp_in; decide) dL_law_1727 ?_
      refine lv_aload_n hx hb dL_law_1728 rfl (lv_at hl 3 rfl) ?_
      refine lv_iload_n hx hb dL_law_1729 rfl (lv_at hl 0 rfl) ?_
      refine lv_iconst (v := 5) hx hb dL_law_1730 (by decide) ?_
      refine lv_iadd hx hb dL_law_1731 ?_
      refine lv_topi (fun y_34 ey_34 => ?_)
      obtain rfl : y_34 = 5 := ey_34.trans (by decide)
      refine va_sld hx hb hX hbl hbA hS (by rw [hL6]; unfold vp_in; decide) dL_law_1732 ?_
      have hPc := hP.sub (ws' := [(hm_, .inr (12, [.int 0, .int 0, .ref (am 2), .ref (am 3), .ref (am 4), .int 0, .ref (am 6), .ref (am 7), .ref (am 8), .int 0, .ref (am 10), .ref (am 11), .ref (am 12), .ref (am 13), .ref (am 14), .ref (am 15), .int 0, .ref (am 17), .ref (am 18), .ref (am 19), .ref (am 20), .int 0, .ref (am 22), .int 0, .ref (am 24), .ref (am 25), .ref (am 26), .ref (am 27), .ref (am 28), .ref (am 29), .int 0, .ref (am 31), .ref (am 32), .ref (am 33), .int 0, .ref (am 35), .int 0, .ref (am 37), .ref (am 38), .ref (am 39), .ref (am 40), .ref (am 41), .ref (am 42), .ref (am 43), .int 0, .ref (am 45), .ref (am 46), .ref (am 47), .int 0, .ref (am 49), .int 0, .ref (am 51), .int 0, .ref (am 53), .ref (am 54), .int 1, .int 0, .ref (am 57), .long 0, .ref (am 59), .ref (am 60), .long 0, .int 0, .int 0, .int 0, .int 0, .int 0, .int 0, .ref (am 68), .int 0, .int 0, .ref (am 71), .ref (am 72), .ref (am 73), .ref (am 74), .ref (am 75), .ref (am 76), .ref (am 77), .ref (am 78)])), (am 75, .inl (cs 75, 4, .inl fs))]) [6, 7] rfl
      have hKc := hK.sub (tys' := [(cs 75, .int)]) [1] rfl
      refine vp_callSi (va_Run.run (va_runV (As := [.int (xs (1 : Int32).toNatClampNeg), .int (xs (2 : Int32).toNatClampNeg), .int (xs (3 : Int32).toNatClampNeg), .int (xs (4 : Int32).toNatClampNeg), .int (xs (5 : Int32).toNatClampNeg)]) (rest := [.int (-2)]) ⟨hx, hb, hml, hown, hts⟩ (rt_X12_copy l dC dI hm_ am cs fs (xs (1 : Int32).toNatClampNeg) (xs (2 : Int32).toNatClampNeg) (xs (3 : Int32).toNatClampNeg) (xs (4 : Int32).toNatClampNeg) (xs (5 : Int32).toNatClampNeg) hsrt) (cwV 5 hts gL_law_X12_copy rfl rfl rfl (by decide +kernel) ⟨Nat.le_of_ble_eq_true rfl, Nat.le_of_ble_eq_true rfl⟩) ⟨fun a U g mk q => by obtain ⟨q0, qP, qK⟩ := q; exact ⟨q0, qP, va_K.moved (u := U) (U := U.calling g mk a) (Vm.Alike.refl U.vm) qK⟩, va_recv hKc hPc (ci := 12) (q0 := 0) rfl rfl, fun U hU hW => ⟨rfl, by rw [hU]; exact hPc, va_K.moved hW.alike hKc⟩⟩ rfl rfl hl.1 rfl (lv_room (Nat.le_of_ble_eq_true rfl)) dL_law_1733 ⟨by decide +kernel, by decide +kernel⟩)) (fun r_35 hr_35 => ?_)
      have hq : ((-2) : Int32) = r_35 := by
        rcases hr_35 with ⟨a1, e1⟩ | ⟨a1, e1⟩ <;> first | (rw [e1]; done) | (exfalso; (try simp only [fa_lt, fa_le, fa_eq, fa_lt64, fa_le64, fa_eq64, Int32.reduceToInt, Int64.reduceToInt, zi_ite] at c_6); (try simp only [fa_lt, fa_le, fa_eq, fa_lt64, fa_le64, fa_eq64, Int32.reduceToInt, Int64.reduceToInt, zi_ite] at c_7); (try simp only [fa_lt, fa_le, fa_eq, fa_lt64, fa_le64, fa_eq64, Int32.reduceToInt, Int64.reduceToInt, zi_ite] at a1); omega)
      refine lv_icmp_eq (tgt := 1837) hx hb dL_law_1736 (by decide) (fun _ => ?_) (fun c9 => absurd hq c9)
      exact law_fin C0 hL6 hS (by decide +kernel) (by decide +kernel) ls (lv_sub hl [3, 2, 1, 0] rfl)
    · have hPc := hP.sub (ws' := [(hc_, .inr (11, [.ref (ad 0), .ref (ad 1), .ref (ad 2), .ref (ad 3), .ref (ad 4), .ref (ad 5), .ref (ad 6), .ref (ad 7), .ref (ad 8), .int 0, .int 0, .int 0, .int 0])), (ad 8, .inl (cd 8, 4, .inr (.inr (.inr (.inr (va_up (va_up (va_up (va_up (fun _ => none) 0 (some (sa 0))) 1 (some (sa 1))) 2 (some (sa 2))) 3 (some (sa 3))))))))]) [0, 1] rfl
      have hKc := hK.sub (tys' := [(cd 8, .object RX7)]) [0] rfl
      refine vp_callSi (va_Run.run (va_runV (As := [.int (xs (1 : Int32).toNatClampNeg), .int (xs (2 : Int32).toNatClampNeg), .int (xs (3 : Int32).toNatClampNeg), .int (xs (4 : Int32).toNatClampNeg), .int (xs (5 : Int32).toNatClampNeg)]) (rest := []) ⟨hx, hb, hml, hown, hts⟩ (rt_X11_copyOI l dC dI hc_ ad (cd 8) (va_up (va_up (va_up (va_up (fun _ => none) 0 (some (sa 0))) 1 (some (sa 1))) 2 (some (sa 2))) 3 (some (sa 3))) (sa 3) (xs (1 : Int32).toNatClampNeg) (xs (2 : Int32).toNatClampNeg) (xs (3 : Int32).toNatClampNeg) (xs (4 : Int32).toNatClampNeg) (xs (5 : Int32).toNatClampNeg) c_6 (by rw [c_7]; decide) (by rw [c_7]; rfl)) (cwV 5 hts gL_law_X11_copy rfl rfl rfl (by decide +kernel) ⟨Nat.le_of_ble_eq_true rfl, Nat.le_of_ble_eq_true rfl⟩) ⟨fun a U g mk q => by obtain ⟨q0, qP, qK⟩ := q; exact ⟨q0, qP, va_K.moved (u := U) (U := U.calling g mk a) (Vm.Alike.refl U.vm) qK⟩, va_recv hKc hPc (ci := 11) (q0 := 0) rfl rfl, fun U hU hW => ⟨rfl, by rw [hU]; exact hPc, va_K.moved hW.alike hKc⟩⟩ rfl rfl hl.1 rfl (lv_room (Nat.le_of_ble_eq_true rfl)) dL_law_1704 ⟨by decide +kernel, by decide +kernel⟩)) (fun r_36 hr_36 => ?_)
      obtain rfl := hr_36
      refine lv_aload_n hx hb dL_law_1707 rfl (lv_at hl 1 rfl) ?_
      refine lv_aload_n hx hb dL_law_1708 rfl (lv_at hl 3 rfl) ?_
      refine lv_iload_n hx hb dL_law_1709 rfl (lv_at hl 0 rfl) ?_
      refine lv_iconst (v := 1) hx hb dL_law_1710 (by decide) ?_
      refine lv_iadd hx hb dL_law_1711 ?_
      refine lv_topi (fun y_37 ey_37 => ?_)
      obtain rfl : y_37 = 1 := ey_37.trans (by decide)
      refine va_sld hx hb hX hbl hbA hS (by rw [hL6]; unfold vp_in; decide) dL_law_1712 ?_
      refine lv_aload_n hx hb dL_law_1713 rfl (lv_at hl 3 rfl) ?_
      refine lv_iload_n hx hb dL_law_1714 rfl (lv_at hl 0 rfl) ?_
      refine lv_iconst (v := 2) hx hb dL_law_1715 (by decide) ?_
      refine lv_iadd hx hb dL_law_1716 ?_
      refine lv_topi (fun y_38 ey_38 => ?_)
      obtain rfl : y_38 = 2 := ey_38.trans (by decide)
      refine va_sld hx hb hX hbl hbA hS (by rw [hL6]; unfold vp_in; decide) dL_law_1717 ?_
      refine lv_aload_n hx hb dL_law_1718 rfl (lv_at hl 3 rfl) ?_
      refine lv_iload_n hx hb dL_law_1719 rfl (lv_at hl 0 rfl) ?_
      refine lv_iconst (v := 3) hx hb dL_law_1720 (by decide) ?_
      refine lv_iadd hx hb dL_law_1721 ?_
      refine lv_topi (fun y_39 ey_39 => ?_)
      obtain rfl : y_39 = 3 := ey_39.trans (by decide)
      refine va_sld hx hb hX hbl hbA hS (by rw [hL6]; unfold vp_in; decide) dL_law_1722 ?_
      refine lv_aload_n hx hb dL_law_1723 rfl (lv_at hl 3 rfl) ?_
      refine lv_iload_n hx hb dL_law_1724 rfl (lv_at hl 0 rfl) ?_
      refine lv_iconst (v := 4) hx hb dL_law_1725 (by decide) ?_
      refine lv_iadd hx hb dL_law_1726 ?_
      refine lv_topi (fun y_40 ey_40 => ?_)
      obtain rfl : y_40 = 4 := ey_40.trans (by decide)
      refine va_sld hx hb hX hbl hbA hS (by rw [hL6]; unfold vp_in; decide) dL_law_1727 ?_
      refine lv_aload_n hx hb dL_law_1728 rfl (lv_at hl 3 rfl) ?_
      refine lv_iload_n hx hb dL_law_1729 rfl (lv_at hl 0 rfl) ?_
      refine lv_iconst (v := 5) hx hb dL_law_1730 (by decide) ?_
      refine lv_iadd hx hb dL_law_1731 ?_
      refine lv_topi (fun y_41 ey_41 => ?_)
      obtain rfl : y_41 = 5 := ey_41.trans (by decide)
      refine va_sld hx hb hX hbl hbA hS (by rw [hL6]; unfold vp_in; decide) dL_law_1732 ?_
      have hPc := hP.sub (ws' := [(hm_, .inr (12, [.int 0, .int 0, .ref (am 2), .ref (am 3), .ref (am 4), .int 0, .ref (am 6), .ref (am 7), .ref (am 8), .int 0, .ref (am 10), .ref (am 11), .ref (am 12), .ref (am 13), .ref (am 14), .ref (am 15), .int 0, .ref (am 17), .ref (am 18), .ref (am 19), .ref (am 20), .int 0, .ref (am 22), .int 0, .ref (am 24), .ref (am 25), .ref (am 26), .ref (am 27), .ref (am 28), .ref (am 29), .int 0, .ref (am 31), .ref (am 32), .ref (am 33), .int 0, .ref (am 35), .int 0, .ref (am 37), .ref (am 38), .ref (am 39), .ref (am 40), .ref (am 41), .ref (am 42), .ref (am 43), .int 0, .ref (am 45), .ref (am 46), .ref (am 47), .int 0, .ref (am 49), .int 0, .ref (am 51), .int 0, .ref (am 53), .ref (am 54), .int 1, .int 0, .ref (am 57), .long 0, .ref (am 59), .ref (am 60), .long 0, .int 0, .int 0, .int 0, .int 0, .int 0, .int 0, .ref (am 68), .int 0, .int 0, .ref (am 71), .ref (am 72), .ref (am 73), .ref (am 74), .ref (am 75), .ref (am 76), .ref (am 77), .ref (am 78)])), (am 75, .inl (cs 75, 4, .inl fs))]) [6, 7] rfl
      have hKc := hK.sub (tys' := [(cs 75, .int)]) [1] rfl
      refine vp_callSi (va_Run.run (va_runV (As := [.int (xs (1 : Int32).toNatClampNeg), .int (xs (2 : Int32).toNatClampNeg), .int (xs (3 : Int32).toNatClampNeg), .int (xs (4 : Int32).toNatClampNeg), .int (xs (5 : Int32).toNatClampNeg)]) (rest := [.int (-2)]) ⟨hx, hb, hml, hown, hts⟩ (rt_X12_copy l dC dI hm_ am cs fs (xs (1 : Int32).toNatClampNeg) (xs (2 : Int32).toNatClampNeg) (xs (3 : Int32).toNatClampNeg) (xs (4 : Int32).toNatClampNeg) (xs (5 : Int32).toNatClampNeg) hsrt) (cwV 5 hts gL_law_X12_copy rfl rfl rfl (by decide +kernel) ⟨Nat.le_of_ble_eq_true rfl, Nat.le_of_ble_eq_true rfl⟩) ⟨fun a U g mk q => by obtain ⟨q0, qP, qK⟩ := q; exact ⟨q0, qP, va_K.moved (u := U) (U := U.calling g mk a) (Vm.Alike.refl U.vm) qK⟩, va_recv hKc hPc (ci := 12) (q0 := 0) rfl rfl, fun U hU hW => ⟨rfl, by rw [hU]; exact hPc, va_K.moved hW.alike hKc⟩⟩ rfl rfl hl.1 rfl (lv_room (Nat.le_of_ble_eq_true rfl)) dL_law_1733 ⟨by decide +kernel, by decide +kernel⟩)) (fun r_42 hr_42 => ?_)
      have hq : ((-2) : Int32) = r_42 := by
        rcases hr_42 with ⟨a1, e1⟩ | ⟨a1, e1⟩ <;> first | (rw [e1]; done) | (exfalso; (try simp only [fa_lt, fa_le, fa_eq, fa_lt64, fa_le64, fa_eq64, Int32.reduceToInt, Int64.reduceToInt, zi_ite] at c_6); (try simp only [fa_lt, fa_le, fa_eq, fa_lt64, fa_le64, fa_eq64, Int32.reduceToInt, Int64.reduceToInt, zi_ite] at c_7); (try simp only [fa_lt, fa_le, fa_eq, fa_lt64, fa_le64, fa_eq64, Int32.reduceToInt, Int64.reduceToInt, zi_ite] at a1); omega)
      refine lv_icmp_eq (tgt := 1837) hx hb dL_law_1736 (by decide) (fun _ => ?_) (fun c9 => absurd hq c9)
      exact law_fin C0 hL6 hS (by decide +kernel) (by decide +kernel) ls (lv_sub hl [3, 2, 1, 0] rfl)
  · rcases (show ((xs (3 : Int32).toNatClampNeg).toInt < 0 ∨ 4 ≤ (xs (3 : Int32).toNatClampNeg).toInt) ∨ (xs (3 : Int32).toNatClampNeg) = 0 ∨ (xs (3 : Int32).toNatClampNeg) = 1 ∨ (xs (3 : Int32).toNatClampNeg) = 2 ∨ (xs (3 : Int32).toNatClampNeg) = 3 by simp only [fa_eq, Int32.reduceToInt]; omega) with c_43 | c_43 | c_43 | c_43 | c_43
    · have hPc := hP.sub (ws' := [(hc_, .inr (11, [.ref (ad 0), .ref (ad 1), .ref (ad 2), .ref (ad 3), .ref (ad 4), .ref (ad 5), .ref (ad 6), .ref (ad 7), .ref (ad 8), .int 0, .int 0, .int 0, .int 0])), (ad 8, .inl (cd 8, 4, .inr (.inr (.inr (.inr (va_up (va_up (va_up (va_up (fun _ => none) 0 (some (sa 0))) 1 (some (sa 1))) 2 (some (sa 2))) 3 (some (sa 3))))))))]) [0, 1] rfl
      have hKc := hK.sub (tys' := [(cd 8, .object RX7)]) [0] rfl
      refine vp_callSi (va_Run.run (va_runV (As := [.int (xs (1 : Int32).toNatClampNeg), .int (xs (2 : Int32).toNatClampNeg), .int (xs (3 : Int32).toNatClampNeg), .int (xs (4 : Int32).toNatClampNeg), .int (xs (5 : Int32).toNatClampNeg)]) (rest := []) ⟨hx, hb, hml, hown, hts⟩ (rt_X11_copyIO l dC dI hc_ ad (cd 8) (va_up (va_up (va_up (va_up (fun _ => none) 0 (some (sa 0))) 1 (some (sa 1))) 2 (some (sa 2))) 3 (some (sa 3))) (sa 0) (xs (1 : Int32).toNatClampNeg) (xs (2 : Int32).toNatClampNeg) (xs (3 : Int32).toNatClampNeg) (xs (4 : Int32).toNatClampNeg) (xs (5 : Int32).toNatClampNeg) (by rw [c_6]; decide) (by rw [c_6]; rfl) c_43) (cwV 5 hts gL_law_X11_copy rfl rfl rfl (by decide +kernel) ⟨Nat.le_of_ble_eq_true rfl, Nat.le_of_ble_eq_true rfl⟩) ⟨fun a U g mk q => by obtain ⟨q0, qP, qK⟩ := q; exact ⟨q0, qP, va_K.moved (u := U) (U := U.calling g mk a) (Vm.Alike.refl U.vm) qK⟩, va_recv hKc hPc (ci := 11) (q0 := 0) rfl rfl, fun U hU hW => ⟨rfl, by rw [hU]; exact hPc, va_K.moved hW.alike hKc⟩⟩ rfl rfl hl.1 rfl (lv_room (Nat.le_of_ble_eq_true rfl)) dL_law_1704 ⟨by decide +kernel, by decide +kernel⟩)) (fun r_44 hr_44 => ?_)
      obtain rfl := hr_44
      refine lv_aload_n hx hb dL_law_1707 rfl (lv_at hl 1 rfl) ?_
      refine lv_aload_n hx hb dL_law_1708 rfl (lv_at hl 3 rfl) ?_
      refine lv_iload_n hx hb dL_law_1709 rfl (lv_at hl 0 rfl) ?_
      refine lv_iconst (v := 1) hx hb dL_law_1710 (by decide) ?_
      refine lv_iadd hx hb dL_law_1711 ?_
      refine lv_topi (fun y_45 ey_45 => ?_)
      obtain rfl : y_45 = 1 := ey_45.trans (by decide)
      refine va_sld hx hb hX hbl hbA hS (by rw [hL6]; unfold vp_in; decide) dL_law_1712 ?_
      refine lv_aload_n hx hb dL_law_1713 rfl (lv_at hl 3 rfl) ?_
      refine lv_iload_n hx hb dL_law_1714 rfl (lv_at hl 0 rfl) ?_
      refine lv_iconst (v := 2) hx hb dL_law_1715 (by decide) ?_
      refine lv_iadd hx hb dL_law_1716 ?_
      refine lv_topi (fun y_46 ey_46 => ?_)
      obtain rfl : y_46 = 2 := ey_46.trans (by decide)
      refine va_sld hx hb hX hbl hbA hS (by rw [hL6]; unfold vp_in; decide) dL_law_1717 ?_
      refine lv_aload_n hx hb dL_law_1718 rfl (lv_at hl 3 rfl) ?_
      refine lv_iload_n hx hb dL_law_1719 rfl (lv_at hl 0 rfl) ?_
      refine lv_iconst (v := 3) hx hb dL_law_1720 (by decide) ?_
      refine lv_iadd hx hb dL_law_1721 ?_
      refine lv_topi (fun y_47 ey_47 => ?_)
      obtain rfl : y_47 = 3 := ey_47.trans (by decide)
      refine va_sld hx hb hX hbl hbA hS (by rw [hL6]; unfold vp_in; decide) dL_law_1722 ?_
      refine lv_aload_n hx hb dL_law_1723 rfl (lv_at hl 3 rfl) ?_
      refine lv_iload_n hx hb dL_law_1724 rfl (lv_at hl 0 rfl) ?_
      refine lv_iconst (v := 4) hx hb dL_law_1725 (by decide) ?_
      refine lv_iadd hx hb dL_law_1726 ?_
      refine lv_topi (fun y_48 ey_48 => ?_)
      obtain rfl : y_48 = 4 := ey_48.trans (by decide)
      refine va_sld hx hb hX hbl hbA hS (by rw [hL6]; unfold vp_in; decide) dL_law_1727 ?_
      refine lv_aload_n hx hb dL_law_1728 rfl (lv_at hl 3 rfl) ?_
      refine lv_iload_n hx hb dL_law_1729 rfl (lv_at hl 0 rfl) ?_
      refine lv_iconst (v := 5) hx hb dL_law_1730 (by decide) ?_
      refine lv_iadd hx hb dL_law_1731 ?_
      refine lv_topi (fun y_49 ey_49 => ?_)
      obtain rfl : y_49 = 5 := ey_49.trans (by decide)
      refine va_sld hx hb hX hbl hbA hS (by rw [hL6]; unfold vp_in; decide) dL_law_1732 ?_
      have hPc := hP.sub (ws' := [(hm_, .inr (12, [.int 0, .int 0, .ref (am 2), .ref (am 3), .ref (am 4), .int 0, .ref (am 6), .ref (am 7), .ref (am 8), .int 0, .ref (am 10), .ref (am 11), .ref (am 12), .ref (am 13), .ref (am 14), .ref (am 15), .int 0, .ref (am 17), .ref (am 18), .ref (am 19), .ref (am 20), .int 0, .ref (am 22), .int 0, .ref (am 24), .ref (am 25), .ref (am 26), .ref (am 27), .ref (am 28), .ref (am 29), .int 0, .ref (am 31), .ref (am 32), .ref (am 33), .int 0, .ref (am 35), .int 0, .ref (am 37), .ref (am 38), .ref (am 39), .ref (am 40), .ref (am 41), .ref (am 42), .ref (am 43), .int 0, .ref (am 45), .ref (am 46), .ref (am 47), .int 0, .ref (am 49), .int 0, .ref (am 51), .int 0, .ref (am 53), .ref (am 54), .int 1, .int 0, .ref (am 57), .long 0, .ref (am 59), .ref (am 60), .long 0, .int 0, .int 0, .int 0, .int 0, .int 0, .int 0, .ref (am 68), .int 0, .int 0, .ref (am 71), .ref (am 72), .ref (am 73), .ref (am 74), .ref (am 75), .ref (am 76), .ref (am 77), .ref (am 78)])), (am 75, .inl (cs 75, 4, .inl fs))]) [6, 7] rfl
      have hKc := hK.sub (tys' := [(cs 75, .int)]) [1] rfl
      refine vp_callSi (va_Run.run (va_runV (As := [.int (xs (1 : Int32).toNatClampNeg), .int (xs (2 : Int32).toNatClampNeg), .int (xs (3 : Int32).toNatClampNeg), .int (xs (4 : Int32).toNatClampNeg), .int (xs (5 : Int32).toNatClampNeg)]) (rest := [.int (-2)]) ⟨hx, hb, hml, hown, hts⟩ (rt_X12_copy l dC dI hm_ am cs fs (xs (1 : Int32).toNatClampNeg) (xs (2 : Int32).toNatClampNeg) (xs (3 : Int32).toNatClampNeg) (xs (4 : Int32).toNatClampNeg) (xs (5 : Int32).toNatClampNeg) hsrt) (cwV 5 hts gL_law_X12_copy rfl rfl rfl (by decide +kernel) ⟨Nat.le_of_ble_eq_true rfl, Nat.le_of_ble_eq_true rfl⟩) ⟨fun a U g mk q => by obtain ⟨q0, qP, qK⟩ := q; exact ⟨q0, qP, va_K.moved (u := U) (U := U.calling g mk a) (Vm.Alike.refl U.vm) qK⟩, va_recv hKc hPc (ci := 12) (q0 := 0) rfl rfl, fun U hU hW => ⟨rfl, by rw [hU]; exact hPc, va_K.moved hW.alike hKc⟩⟩ rfl rfl hl.1 rfl (lv_room (Nat.le_of_ble_eq_true rfl)) dL_law_1733 ⟨by decide +kernel, by decide +kernel⟩)) (fun r_50 hr_50 => ?_)
      have hq : ((-2) : Int32) = r_50 := by
        rcases hr_50 with ⟨a1, e1⟩ | ⟨a1, e1⟩ <;> first | (rw [e1]; done) | (exfalso; (try simp only [fa_lt, fa_le, fa_eq, fa_lt64, fa_le64, fa_eq64, Int32.reduceToInt, Int64.reduceToInt, zi_ite] at c_6); (try simp only [fa_lt, fa_le, fa_eq, fa_lt64, fa_le64, fa_eq64, Int32.reduceToInt, Int64.reduceToInt, zi_ite] at c_43); (try simp only [fa_lt, fa_le, fa_eq, fa_lt64, fa_le64, fa_eq64, Int32.reduceToInt, Int64.reduceToInt, zi_ite] at a1); omega)
      refine lv_icmp_eq (tgt := 1837) hx hb dL_law_1736 (by decide) (fun _ => ?_) (fun c9 => absurd hq c9)
      exact law_fin C0 hL6 hS (by decide +kernel) (by decide +kernel) ls (lv_sub hl [3, 2, 1, 0] rfl)
    · have hPc := hP.sub (ws' := [(hc_, .inr (11, [.ref (ad 0), .ref (ad 1), .ref (ad 2), .ref (ad 3), .ref (ad 4), .ref (ad 5), .ref (ad 6), .ref (ad 7), .ref (ad 8), .int 0, .int 0, .int 0, .int 0])), (ad 8, .inl (cd 8, 4, .inr (.inr (.inr (.inr (va_up (va_up (va_up (va_up (fun _ => none) 0 (some (sa 0))) 1 (some (sa 1))) 2 (some (sa 2))) 3 (some (sa 3)))))))), (sa 0, .inr (7, [.ref ((fun _ => ai 0) 0), .int (-1), .int 0]))]) [0, 1, 2] rfl
      have hKc := hK.sub (tys' := [(cd 8, .object RX7)]) [0] rfl
      refine vp_callSi (va_Run.run (va_runV (As := [.int (xs (1 : Int32).toNatClampNeg), .int (xs (2 : Int32).toNatClampNeg), .int (xs (3 : Int32).toNatClampNeg), .int (xs (4 : Int32).toNatClampNeg), .int (xs (5 : Int32).toNatClampNeg)]) (rest := []) ⟨hx, hb, hml, hown, hts⟩ (rt_X11_copyII l dC dI hc_ ad (cd 8) (va_up (va_up (va_up (va_up (fun _ => none) 0 (some (sa 0))) 1 (some (sa 1))) 2 (some (sa 2))) 3 (some (sa 3))) (sa 0) (fun _ => ai 0) (sa 0) (xs (1 : Int32).toNatClampNeg) (xs (2 : Int32).toNatClampNeg) (xs (3 : Int32).toNatClampNeg) (xs (4 : Int32).toNatClampNeg) (xs (5 : Int32).toNatClampNeg) (by rw [c_6]; decide) (by rw [c_6]; rfl) (by rw [c_43]; decide) (by rw [c_43]; rfl)) (cwV 5 hts gL_law_X11_copy rfl rfl rfl (by decide +kernel) ⟨Nat.le_of_ble_eq_true rfl, Nat.le_of_ble_eq_true rfl⟩) ⟨fun a U g mk q => by obtain ⟨q0, qP, qK⟩ := q; exact ⟨q0, qP, va_K.moved (u := U) (U := U.calling g mk a) (Vm.Alike.refl U.vm) qK⟩, va_recv hKc hPc (ci := 11) (q0 := 0) rfl rfl, fun U hU hW => ⟨rfl, by rw [hU]; exact hPc, va_K.moved hW.alike hKc⟩⟩ rfl rfl hl.1 rfl (lv_room (Nat.le_of_ble_eq_true rfl)) dL_law_1704 ⟨by decide +kernel, by decide +kernel⟩)) (fun r_51 hr_51 => ?_)
      obtain rfl := hr_51
      refine lv_aload_n hx hb dL_law_1707 rfl (lv_at hl 1 rfl) ?_
      refine lv_aload_n hx hb dL_law_1708 rfl (lv_at hl 3 rfl) ?_
      refine lv_iload_n hx hb dL_law_1709 rfl (lv_at hl 0 rfl) ?_
      refine lv_iconst (v := 1) hx hb dL_law_1710 (by decide) ?_
      refine lv_iadd hx hb dL_law_1711 ?_
      refine lv_topi (fun y_52 ey_52 => ?_)
      obtain rfl : y_52 = 1 := ey_52.trans (by decide)
      refine va_sld hx hb hX hbl hbA hS (by rw [hL6]; unfold vp_in; decide) dL_law_1712 ?_
      refine lv_aload_n hx hb dL_law_1713 rfl (lv_at hl 3 rfl) ?_
      refine lv_iload_n hx hb dL_law_1714 rfl (lv_at hl 0 rfl) ?_
      refine lv_iconst (v := 2) hx hb dL_law_1715 (by decide) ?_
      refine lv_iadd hx hb dL_law_1716 ?_
      refine lv_topi (fun y_53 ey_53 => ?_)
      obtain rfl : y_53 = 2 := ey_53.trans (by decide)
      refine va_sld hx hb hX hbl hbA hS (by rw [hL6]; unfold vp_in; decide) dL_law_1717 ?_
      refine lv_aload_n hx hb dL_law_1718 rfl (lv_at hl 3 rfl) ?_
      refine lv_iload_n hx hb dL_law_1719 rfl (lv_at hl 0 rfl) ?_
      refine lv_iconst (v := 3) hx hb dL_law_1720 (by decide) ?_
      refine lv_iadd hx hb dL_law_1721 ?_
      refine lv_topi (fun y_54 ey_54 => ?_)
      obtain rfl : y_54 = 3 := ey_54.trans (by decide)
      refine va_sld hx hb hX hbl hbA hS (by rw [hL6]; unfold vp_in; decide) dL_law_1722 ?_
      refine lv_aload_n hx hb dL_law_1723 rfl (lv_at hl 3 rfl) ?_
      refine lv_iload_n hx hb dL_law_1724 rfl (lv_at hl 0 rfl) ?_
      refine lv_iconst (v := 4) hx hb dL_law_1725 (by decide) ?_
      refine lv_iadd hx hb dL_law_1726 ?_
      refine lv_topi (fun y_55 ey_55 => ?_)
      obtain rfl : y_55 = 4 := ey_55.trans (by decide)
      refine va_sld hx hb hX hbl hbA hS (by rw [hL6]; unfold vp_in; decide) dL_law_1727 ?_
      refine lv_aload_n hx hb dL_law_1728 rfl (lv_at hl 3 rfl) ?_
      refine lv_iload_n hx hb dL_law_1729 rfl (lv_at hl 0 rfl) ?_
      refine lv_iconst (v := 5) hx hb dL_law_1730 (by decide) ?_
      refine lv_iadd hx hb dL_law_1731 ?_
      refine lv_topi (fun y_56 ey_56 => ?_)
      obtain rfl : y_56 = 5 := ey_56.trans (by decide)
      refine va_sld hx hb hX hbl hbA hS (by rw [hL6]; unfold vp_in; decide) dL_law_1732 ?_
      have hPc := hP.sub (ws' := [(hm_, .inr (12, [.int 0, .int 0, .ref (am 2), .ref (am 3), .ref (am 4), .int 0, .ref (am 6), .ref (am 7), .ref (am 8), .int 0, .ref (am 10), .ref (am 11), .ref (am 12), .ref (am 13), .ref (am 14), .ref (am 15), .int 0, .ref (am 17), .ref (am 18), .ref (am 19), .ref (am 20), .int 0, .ref (am 22), .int 0, .ref (am 24), .ref (am 25), .ref (am 26), .ref (am 27), .ref (am 28), .ref (am 29), .int 0, .ref (am 31), .ref (am 32), .ref (am 33), .int 0, .ref (am 35), .int 0, .ref (am 37), .ref (am 38), .ref (am 39), .ref (am 40), .ref (am 41), .ref (am 42), .ref (am 43), .int 0, .ref (am 45), .ref (am 46), .ref (am 47), .int 0, .ref (am 49), .int 0, .ref (am 51), .int 0, .ref (am 53), .ref (am 54), .int 1, .int 0, .ref (am 57), .long 0, .ref (am 59), .ref (am 60), .long 0, .int 0, .int 0, .int 0, .int 0, .int 0, .int 0, .ref (am 68), .int 0, .int 0, .ref (am 71), .ref (am 72), .ref (am 73), .ref (am 74), .ref (am 75), .ref (am 76), .ref (am 77), .ref (am 78)])), (am 75, .inl (cs 75, 4, .inl fs))]) [6, 7] rfl
      have hKc := hK.sub (tys' := [(cs 75, .int)]) [1] rfl
      refine vp_callSi (va_Run.run (va_runV (As := [.int (xs (1 : Int32).toNatClampNeg), .int (xs (2 : Int32).toNatClampNeg), .int (xs (3 : Int32).toNatClampNeg), .int (xs (4 : Int32).toNatClampNeg), .int (xs (5 : Int32).toNatClampNeg)]) (rest := [.int (-11)]) ⟨hx, hb, hml, hown, hts⟩ (rt_X12_copy l dC dI hm_ am cs fs (xs (1 : Int32).toNatClampNeg) (xs (2 : Int32).toNatClampNeg) (xs (3 : Int32).toNatClampNeg) (xs (4 : Int32).toNatClampNeg) (xs (5 : Int32).toNatClampNeg) hsrt) (cwV 5 hts gL_law_X12_copy rfl rfl rfl (by decide +kernel) ⟨Nat.le_of_ble_eq_true rfl, Nat.le_of_ble_eq_true rfl⟩) ⟨fun a U g mk q => by obtain ⟨q0, qP, qK⟩ := q; exact ⟨q0, qP, va_K.moved (u := U) (U := U.calling g mk a) (Vm.Alike.refl U.vm) qK⟩, va_recv hKc hPc (ci := 12) (q0 := 0) rfl rfl, fun U hU hW => ⟨rfl, by rw [hU]; exact hPc, va_K.moved hW.alike hKc⟩⟩ rfl rfl hl.1 rfl (lv_room (Nat.le_of_ble_eq_true rfl)) dL_law_1733 ⟨by decide +kernel, by decide +kernel⟩)) (fun r_57 hr_57 => ?_)
      have hq : ((-11) : Int32) = r_57 := by
        rcases hr_57 with ⟨a1, e1⟩ | ⟨a1, e1⟩ <;> first | (rw [e1]; done) | (exfalso; (try simp only [fa_lt, fa_le, fa_eq, fa_lt64, fa_le64, fa_eq64, Int32.reduceToInt, Int64.reduceToInt, zi_ite] at c_6); (try simp only [fa_lt, fa_le, fa_eq, fa_lt64, fa_le64, fa_eq64, Int32.reduceToInt, Int64.reduceToInt, zi_ite] at c_43); (try simp only [fa_lt, fa_le, fa_eq, fa_lt64, fa_le64, fa_eq64, Int32.reduceToInt, Int64.reduceToInt, zi_ite] at a1); omega)
      refine lv_icmp_eq (tgt := 1837) hx hb dL_law_1736 (by decide) (fun _ => ?_) (fun c9 => absurd hq c9)
      exact law_fin C0 hL6 hS (by decide +kernel) (by decide +kernel) ls (lv_sub hl [3, 2, 1, 0] rfl)
    · have hPc := hP.sub (ws' := [(hc_, .inr (11, [.ref (ad 0), .ref (ad 1), .ref (ad 2), .ref (ad 3), .ref (ad 4), .ref (ad 5), .ref (ad 6), .ref (ad 7), .ref (ad 8), .int 0, .int 0, .int 0, .int 0])), (ad 8, .inl (cd 8, 4, .inr (.inr (.inr (.inr (va_up (va_up (va_up (va_up (fun _ => none) 0 (some (sa 0))) 1 (some (sa 1))) 2 (some (sa 2))) 3 (some (sa 3)))))))), (sa 0, .inr (7, [.ref ((fun _ => ai 0) 0), .int (-1), .int 0]))]) [0, 1, 2] rfl
      have hKc := hK.sub (tys' := [(cd 8, .object RX7)]) [0] rfl
      refine vp_callSi (va_Run.run (va_runV (As := [.int (xs (1 : Int32).toNatClampNeg), .int (xs (2 : Int32).toNatClampNeg), .int (xs (3 : Int32).toNatClampNeg), .int (xs (4 : Int32).toNatClampNeg), .int (xs (5 : Int32).toNatClampNeg)]) (rest := []) ⟨hx, hb, hml, hown, hts⟩ (rt_X11_copyII l dC dI hc_ ad (cd 8) (va_up (va_up (va_up (va_up (fun _ => none) 0 (some (sa 0))) 1 (some (sa 1))) 2 (some (sa 2))) 3 (some (sa 3))) (sa 0) (fun _ => ai 0) (sa 1) (xs (1 : Int32).toNatClampNeg) (xs (2 : Int32).toNatClampNeg) (xs (3 : Int32).toNatClampNeg) (xs (4 : Int32).toNatClampNeg) (xs (5 : Int32).toNatClampNeg) (by rw [c_6]; decide) (by rw [c_6]; rfl) (by rw [c_43]; decide) (by rw [c_43]; rfl)) (cwV 5 hts gL_law_X11_copy rfl rfl rfl (by decide +kernel) ⟨Nat.le_of_ble_eq_true rfl, Nat.le_of_ble_eq_true rfl⟩) ⟨fun a U g mk q => by obtain ⟨q0, qP, qK⟩ := q; exact ⟨q0, qP, va_K.moved (u := U) (U := U.calling g mk a) (Vm.Alike.refl U.vm) qK⟩, va_recv hKc hPc (ci := 11) (q0 := 0) rfl rfl, fun U hU hW => ⟨rfl, by rw [hU]; exact hPc, va_K.moved hW.alike hKc⟩⟩ rfl rfl hl.1 rfl (lv_room (Nat.le_of_ble_eq_true rfl)) dL_law_1704 ⟨by decide +kernel, by decide +kernel⟩)) (fun r_58 hr_58 => ?_)
      obtain rfl := hr_58
      refine lv_aload_n hx hb dL_law_1707 rfl (lv_at hl 1 rfl) ?_
      refine lv_aload_n hx hb dL_law_1708 rfl (lv_at hl 3 rfl) ?_
      refine lv_iload_n hx hb dL_law_1709 rfl (lv_at hl 0 rfl) ?_
      refine lv_iconst (v := 1) hx hb dL_law_1710 (by decide) ?_
      refine lv_iadd hx hb dL_law_1711 ?_
      refine lv_topi (fun y_59 ey_59 => ?_)
      obtain rfl : y_59 = 1 := ey_59.trans (by decide)
      refine va_sld hx hb hX hbl hbA hS (by rw [hL6]; unfold vp_in; decide) dL_law_1712 ?_
      refine lv_aload_n hx hb dL_law_1713 rfl (lv_at hl 3 rfl) ?_
      refine lv_iload_n hx hb dL_law_1714 rfl (lv_at hl 0 rfl) ?_
      refine lv_iconst (v := 2) hx hb dL_law_1715 (by decide) ?_
      refine lv_iadd hx hb dL_law_1716 ?_
      refine lv_topi (fun y_60 ey_60 => ?_)
      obtain rfl : y_60 = 2 := ey_60.trans (by decide)
      refine va_sld hx hb hX hbl hbA hS (by rw [hL6]; unfold vp_in; decide) dL_law_1717 ?_
      refine lv_aload_n hx hb dL_law_1718 rfl (lv_at hl 3 rfl) ?_
      refine lv_iload_n hx hb dL_law_1719 rfl (lv_at hl 0 rfl) ?_
      refine lv_iconst (v := 3) hx hb dL_law_1720 (by decide) ?_
      refine lv_iadd hx hb dL_law_1721 ?_
      refine lv_topi (fun y_61 ey_61 => ?_)
      obtain rfl : y_61 = 3 := ey_61.trans (by decide)
      refine va_sld hx hb hX hbl hbA hS (by rw [hL6]; unfold vp_in; decide) dL_law_1722 ?_
      refine lv_aload_n hx hb dL_law_1723 rfl (lv_at hl 3 rfl) ?_
      refine lv_iload_n hx hb dL_law_1724 rfl (lv_at hl 0 rfl) ?_
      refine lv_iconst (v := 4) hx hb dL_law_1725 (by decide) ?_
      refine lv_iadd hx hb dL_law_1726 ?_
      refine lv_topi (fun y_62 ey_62 => ?_)
      obtain rfl : y_62 = 4 := ey_62.trans (by decide)
      refine va_sld hx hb hX hbl hbA hS (by rw [hL6]; unfold vp_in; decide) dL_law_1727 ?_
      refine lv_aload_n hx hb dL_law_1728 rfl (lv_at hl 3 rfl) ?_
      refine lv_iload_n hx hb dL_law_1729 rfl (lv_at hl 0 rfl) ?_
      refine lv_iconst (v := 5) hx hb dL_law_1730 (by decide) ?_
      refine lv_iadd hx hb dL_law_1731 ?_
      refine lv_topi (fun y_63 ey_63 => ?_)
      obtain rfl : y_63 = 5 := ey_63.trans (by decide)
      refine va_sld hx hb hX hbl hbA hS (by rw [hL6]; unfold vp_in; decide) dL_law_1732 ?_
      have hPc := hP.sub (ws' := [(hm_, .inr (12, [.int 0, .int 0, .ref (am 2), .ref (am 3), .ref (am 4), .int 0, .ref (am 6), .ref (am 7), .ref (am 8), .int 0, .ref (am 10), .ref (am 11), .ref (am 12), .ref (am 13), .ref (am 14), .ref (am 15), .int 0, .ref (am 17), .ref (am 18), .ref (am 19), .ref (am 20), .int 0, .ref (am 22), .int 0, .ref (am 24), .ref (am 25), .ref (am 26), .ref (am 27), .ref (am 28), .ref (am 29), .int 0, .ref (am 31), .ref (am 32), .ref (am 33), .int 0, .ref (am 35), .int 0, .ref (am 37), .ref (am 38), .ref (am 39), .ref (am 40), .ref (am 41), .ref (am 42), .ref (am 43), .int 0, .ref (am 45), .ref (am 46), .ref (am 47), .int 0, .ref (am 49), .int 0, .ref (am 51), .int 0, .ref (am 53), .ref (am 54), .int 1, .int 0, .ref (am 57), .long 0, .ref (am 59), .ref (am 60), .long 0, .int 0, .int 0, .int 0, .int 0, .int 0, .int 0, .ref (am 68), .int 0, .int 0, .ref (am 71), .ref (am 72), .ref (am 73), .ref (am 74), .ref (am 75), .ref (am 76), .ref (am 77), .ref (am 78)])), (am 75, .inl (cs 75, 4, .inl fs))]) [6, 7] rfl
      have hKc := hK.sub (tys' := [(cs 75, .int)]) [1] rfl
      refine vp_callSi (va_Run.run (va_runV (As := [.int (xs (1 : Int32).toNatClampNeg), .int (xs (2 : Int32).toNatClampNeg), .int (xs (3 : Int32).toNatClampNeg), .int (xs (4 : Int32).toNatClampNeg), .int (xs (5 : Int32).toNatClampNeg)]) (rest := [.int (-11)]) ⟨hx, hb, hml, hown, hts⟩ (rt_X12_copy l dC dI hm_ am cs fs (xs (1 : Int32).toNatClampNeg) (xs (2 : Int32).toNatClampNeg) (xs (3 : Int32).toNatClampNeg) (xs (4 : Int32).toNatClampNeg) (xs (5 : Int32).toNatClampNeg) hsrt) (cwV 5 hts gL_law_X12_copy rfl rfl rfl (by decide +kernel) ⟨Nat.le_of_ble_eq_true rfl, Nat.le_of_ble_eq_true rfl⟩) ⟨fun a U g mk q => by obtain ⟨q0, qP, qK⟩ := q; exact ⟨q0, qP, va_K.moved (u := U) (U := U.calling g mk a) (Vm.Alike.refl U.vm) qK⟩, va_recv hKc hPc (ci := 12) (q0 := 0) rfl rfl, fun U hU hW => ⟨rfl, by rw [hU]; exact hPc, va_K.moved hW.alike hKc⟩⟩ rfl rfl hl.1 rfl (lv_room (Nat.le_of_ble_eq_true rfl)) dL_law_1733 ⟨by decide +kernel, by decide +kernel⟩)) (fun r_64 hr_64 => ?_)
      have hq : ((-11) : Int32) = r_64 := by
        rcases hr_64 with ⟨a1, e1⟩ | ⟨a1, e1⟩ <;> first | (rw [e1]; done) | (exfalso; (try simp only [fa_lt, fa_le, fa_eq, fa_lt64, fa_le64, fa_eq64, Int32.reduceToInt, Int64.reduceToInt, zi_ite] at c_6); (try simp only [fa_lt, fa_le, fa_eq, fa_lt64, fa_le64, fa_eq64, Int32.reduceToInt, Int64.reduceToInt, zi_ite] at c_43); (try simp only [fa_lt, fa_le, fa_eq, fa_lt64, fa_le64, fa_eq64, Int32.reduceToInt, Int64.reduceToInt, zi_ite] at a1); omega)
      refine lv_icmp_eq (tgt := 1837) hx hb dL_law_1736 (by decide) (fun _ => ?_) (fun c9 => absurd hq c9)
      exact law_fin C0 hL6 hS (by decide +kernel) (by decide +kernel) ls (lv_sub hl [3, 2, 1, 0] rfl)
    · have hPc := hP.sub (ws' := [(hc_, .inr (11, [.ref (ad 0), .ref (ad 1), .ref (ad 2), .ref (ad 3), .ref (ad 4), .ref (ad 5), .ref (ad 6), .ref (ad 7), .ref (ad 8), .int 0, .int 0, .int 0, .int 0])), (ad 8, .inl (cd 8, 4, .inr (.inr (.inr (.inr (va_up (va_up (va_up (va_up (fun _ => none) 0 (some (sa 0))) 1 (some (sa 1))) 2 (some (sa 2))) 3 (some (sa 3)))))))), (sa 0, .inr (7, [.ref ((fun _ => ai 0) 0), .int (-1), .int 0]))]) [0, 1, 2] rfl
      have hKc := hK.sub (tys' := [(cd 8, .object RX7)]) [0] rfl
      refine vp_callSi (va_Run.run (va_runV (As := [.int (xs (1 : Int32).toNatClampNeg), .int (xs (2 : Int32).toNatClampNeg), .int (xs (3 : Int32).toNatClampNeg), .int (xs (4 : Int32).toNatClampNeg), .int (xs (5 : Int32).toNatClampNeg)]) (rest := []) ⟨hx, hb, hml, hown, hts⟩ (rt_X11_copyII l dC dI hc_ ad (cd 8) (va_up (va_up (va_up (va_up (fun _ => none) 0 (some (sa 0))) 1 (some (sa 1))) 2 (some (sa 2))) 3 (some (sa 3))) (sa 0) (fun _ => ai 0) (sa 2) (xs (1 : Int32).toNatClampNeg) (xs (2 : Int32).toNatClampNeg) (xs (3 : Int32).toNatClampNeg) (xs (4 : Int32).toNatClampNeg) (xs (5 : Int32).toNatClampNeg) (by rw [c_6]; decide) (by rw [c_6]; rfl) (by rw [c_43]; decide) (by rw [c_43]; rfl)) (cwV 5 hts gL_law_X11_copy rfl rfl rfl (by decide +kernel) ⟨Nat.le_of_ble_eq_true rfl, Nat.le_of_ble_eq_true rfl⟩) ⟨fun a U g mk q => by obtain ⟨q0, qP, qK⟩ := q; exact ⟨q0, qP, va_K.moved (u := U) (U := U.calling g mk a) (Vm.Alike.refl U.vm) qK⟩, va_recv hKc hPc (ci := 11) (q0 := 0) rfl rfl, fun U hU hW => ⟨rfl, by rw [hU]; exact hPc, va_K.moved hW.alike hKc⟩⟩ rfl rfl hl.1 rfl (lv_room (Nat.le_of_ble_eq_true rfl)) dL_law_1704 ⟨by decide +kernel, by decide +kernel⟩)) (fun r_65 hr_65 => ?_)
      obtain rfl := hr_65
      refine lv_aload_n hx hb dL_law_1707 rfl (lv_at hl 1 rfl) ?_
      refine lv_aload_n hx hb dL_law_1708 rfl (lv_at hl 3 rfl) ?_
      refine lv_iload_n hx hb dL_law_1709 rfl (lv_at hl 0 rfl) ?_
      refine lv_iconst (v := 1) hx hb dL_law_1710 (by decide) ?_
      refine lv_iadd hx hb dL_law_1711 ?_
      refine lv_topi (fun y_66 ey_66 => ?_)
      obtain rfl : y_66 = 1 := ey_66.trans (by decide)
      refine va_sld hx hb hX hbl hbA hS (by rw [hL6]; unfold vp_in; decide) dL_law_1712 ?_
      refine lv_aload_n hx hb dL_law_1713 rfl (lv_at hl 3 rfl) ?_
      refine lv_iload_n hx hb dL_law_1714 rfl (lv_at hl 0 rfl) ?_
      refine lv_iconst (v := 2) hx hb dL_law_1715 (by decide) ?_
      refine lv_iadd hx hb dL_law_1716 ?_
      refine lv_topi (fun y_67 ey_67 => ?_)
      obtain rfl : y_67 = 2 := ey_67.trans (by decide)
      refine va_sld hx hb hX hbl hbA hS (by rw [hL6]; unfold vp_in; decide) dL_law_1717 ?_
      refine lv_aload_n hx hb dL_law_1718 rfl (lv_at hl 3 rfl) ?_
      refine lv_iload_n hx hb dL_law_1719 rfl (lv_at hl 0 rfl) ?_
      refine lv_iconst (v := 3) hx hb dL_law_1720 (by decide) ?_
      refine lv_iadd hx hb dL_law_1721 ?_
      refine lv_topi (fun y_68 ey_68 => ?_)
      obtain rfl : y_68 = 3 := ey_68.trans (by decide)
      refine va_sld hx hb hX hbl hbA hS (by rw [hL6]; unfold vp_in; decide) dL_law_1722 ?_
      refine lv_aload_n hx hb dL_law_1723 rfl (lv_at hl 3 rfl) ?_
      refine lv_iload_n hx hb dL_law_1724 rfl (lv_at hl 0 rfl) ?_
      refine lv_iconst (v := 4) hx hb dL_law_1725 (by decide) ?_
      refine lv_iadd hx hb dL_law_1726 ?_
      refine lv_topi (fun y_69 ey_69 => ?_)
      obtain rfl : y_69 = 4 := ey_69.trans (by decide)
      refine va_sld hx hb hX hbl hbA hS (by rw [hL6]; unfold vp_in; decide) dL_law_1727 ?_
      refine lv_aload_n hx hb dL_law_1728 rfl (lv_at hl 3 rfl) ?_
      refine lv_iload_n hx hb dL_law_1729 rfl (lv_at hl 0 rfl) ?_
      refine lv_iconst (v := 5) hx hb dL_law_1730 (by decide) ?_
      refine lv_iadd hx hb dL_law_1731 ?_
      refine lv_topi (fun y_70 ey_70 => ?_)
      obtain rfl : y_70 = 5 := ey_70.trans (by decide)
      refine va_sld hx hb hX hbl hbA hS (by rw [hL6]; unfold vp_in; decide) dL_law_1732 ?_
      have hPc := hP.sub (ws' := [(hm_, .inr (12, [.int 0, .int 0, .ref (am 2), .ref (am 3), .ref (am 4), .int 0, .ref (am 6), .ref (am 7), .ref (am 8), .int 0, .ref (am 10), .ref (am 11), .ref (am 12), .ref (am 13), .ref (am 14), .ref (am 15), .int 0, .ref (am 17), .ref (am 18), .ref (am 19), .ref (am 20), .int 0, .ref (am 22), .int 0, .ref (am 24), .ref (am 25), .ref (am 26), .ref (am 27), .ref (am 28), .ref (am 29), .int 0, .ref (am 31), .ref (am 32), .ref (am 33), .int 0, .ref (am 35), .int 0, .ref (am 37), .ref (am 38), .ref (am 39), .ref (am 40), .ref (am 41), .ref (am 42), .ref (am 43), .int 0, .ref (am 45), .ref (am 46), .ref (am 47), .int 0, .ref (am 49), .int 0, .ref (am 51), .int 0, .ref (am 53), .ref (am 54), .int 1, .int 0, .ref (am 57), .long 0, .ref (am 59), .ref (am 60), .long 0, .int 0, .int 0, .int 0, .int 0, .int 0, .int 0, .ref (am 68), .int 0, .int 0, .ref (am 71), .ref (am 72), .ref (am 73), .ref (am 74), .ref (am 75), .ref (am 76), .ref (am 77), .ref (am 78)])), (am 75, .inl (cs 75, 4, .inl fs))]) [6, 7] rfl
      have hKc := hK.sub (tys' := [(cs 75, .int)]) [1] rfl
      refine vp_callSi (va_Run.run (va_runV (As := [.int (xs (1 : Int32).toNatClampNeg), .int (xs (2 : Int32).toNatClampNeg), .int (xs (3 : Int32).toNatClampNeg), .int (xs (4 : Int32).toNatClampNeg), .int (xs (5 : Int32).toNatClampNeg)]) (rest := [.int (-11)]) ⟨hx, hb, hml, hown, hts⟩ (rt_X12_copy l dC dI hm_ am cs fs (xs (1 : Int32).toNatClampNeg) (xs (2 : Int32).toNatClampNeg) (xs (3 : Int32).toNatClampNeg) (xs (4 : Int32).toNatClampNeg) (xs (5 : Int32).toNatClampNeg) hsrt) (cwV 5 hts gL_law_X12_copy rfl rfl rfl (by decide +kernel) ⟨Nat.le_of_ble_eq_true rfl, Nat.le_of_ble_eq_true rfl⟩) ⟨fun a U g mk q => by obtain ⟨q0, qP, qK⟩ := q; exact ⟨q0, qP, va_K.moved (u := U) (U := U.calling g mk a) (Vm.Alike.refl U.vm) qK⟩, va_recv hKc hPc (ci := 12) (q0 := 0) rfl rfl, fun U hU hW => ⟨rfl, by rw [hU]; exact hPc, va_K.moved hW.alike hKc⟩⟩ rfl rfl hl.1 rfl (lv_room (Nat.le_of_ble_eq_true rfl)) dL_law_1733 ⟨by decide +kernel, by decide +kernel⟩)) (fun r_71 hr_71 => ?_)
      have hq : ((-11) : Int32) = r_71 := by
        rcases hr_71 with ⟨a1, e1⟩ | ⟨a1, e1⟩ <;> first | (rw [e1]; done) | (exfalso; (try simp only [fa_lt, fa_le, fa_eq, fa_lt64, fa_le64, fa_eq64, Int32.reduceToInt, Int64.reduceToInt, zi_ite] at c_6); (try simp only [fa_lt, fa_le, fa_eq, fa_lt64, fa_le64, fa_eq64, Int32.reduceToInt, Int64.reduceToInt, zi_ite] at c_43); (try simp only [fa_lt, fa_le, fa_eq, fa_lt64, fa_le64, fa_eq64, Int32.reduceToInt, Int64.reduceToInt, zi_ite] at a1); omega)
      refine lv_icmp_eq (tgt := 1837) hx hb dL_law_1736 (by decide) (fun _ => ?_) (fun c9 => absurd hq c9)
      exact law_fin C0 hL6 hS (by decide +kernel) (by decide +kernel) ls (lv_sub hl [3, 2, 1, 0] rfl)
    · have hPc := hP.sub (ws' := [(hc_, .inr (11, [.ref (ad 0), .ref (ad 1), .ref (ad 2), .ref (ad 3), .ref (ad 4), .ref (ad 5), .ref (ad 6), .ref (ad 7), .ref (ad 8), .int 0, .int 0, .int 0, .int 0])), (ad 8, .inl (cd 8, 4, .inr (.inr (.inr (.inr (va_up (va_up (va_up (va_up (fun _ => none) 0 (some (sa 0))) 1 (some (sa 1))) 2 (some (sa 2))) 3 (some (sa 3)))))))), (sa 0, .inr (7, [.ref ((fun _ => ai 0) 0), .int (-1), .int 0]))]) [0, 1, 2] rfl
      have hKc := hK.sub (tys' := [(cd 8, .object RX7)]) [0] rfl
      refine vp_callSi (va_Run.run (va_runV (As := [.int (xs (1 : Int32).toNatClampNeg), .int (xs (2 : Int32).toNatClampNeg), .int (xs (3 : Int32).toNatClampNeg), .int (xs (4 : Int32).toNatClampNeg), .int (xs (5 : Int32).toNatClampNeg)]) (rest := []) ⟨hx, hb, hml, hown, hts⟩ (rt_X11_copyII l dC dI hc_ ad (cd 8) (va_up (va_up (va_up (va_up (fun _ => none) 0 (some (sa 0))) 1 (some (sa 1))) 2 (some (sa 2))) 3 (some (sa 3))) (sa 0) (fun _ => ai 0) (sa 3) (xs (1 : Int32).toNatClampNeg) (xs (2 : Int32).toNatClampNeg) (xs (3 : Int32).toNatClampNeg) (xs (4 : Int32).toNatClampNeg) (xs (5 : Int32).toNatClampNeg) (by rw [c_6]; decide) (by rw [c_6]; rfl) (by rw [c_43]; decide) (by rw [c_43]; rfl)) (cwV 5 hts gL_law_X11_copy rfl rfl rfl (by decide +kernel) ⟨Nat.le_of_ble_eq_true rfl, Nat.le_of_ble_eq_true rfl⟩) ⟨fun a U g mk q => by obtain ⟨q0, qP, qK⟩ := q; exact ⟨q0, qP, va_K.moved (u := U) (U := U.calling g mk a) (Vm.Alike.refl U.vm) qK⟩, va_recv hKc hPc (ci := 11) (q0 := 0) rfl rfl, fun U hU hW => ⟨rfl, by rw [hU]; exact hPc, va_K.moved hW.alike hKc⟩⟩ rfl rfl hl.1 rfl (lv_room (Nat.le_of_ble_eq_true rfl)) dL_law_1704 ⟨by decide +kernel, by decide +kernel⟩)) (fun r_72 hr_72 => ?_)
      obtain rfl := hr_72
      refine lv_aload_n hx hb dL_law_1707 rfl (lv_at hl 1 rfl) ?_
      refine lv_aload_n hx hb dL_law_1708 rfl (lv_at hl 3 rfl) ?_
      refine lv_iload_n hx hb dL_law_1709 rfl (lv_at hl 0 rfl) ?_
      refine lv_iconst (v := 1) hx hb dL_law_1710 (by decide) ?_
      refine lv_iadd hx hb dL_law_1711 ?_
      refine lv_topi (fun y_73 ey_73 => ?_)
      obtain rfl : y_73 = 1 := ey_73.trans (by decide)
      refine va_sld hx hb hX hbl hbA hS (by rw [hL6]; unfold vp_in; decide) dL_law_1712 ?_
      refine lv_aload_n hx hb dL_law_1713 rfl (lv_at hl 3 rfl) ?_
      refine lv_iload_n hx hb dL_law_1714 rfl (lv_at hl 0 rfl) ?_
      refine lv_iconst (v := 2) hx hb dL_law_1715 (by decide) ?_
      refine lv_iadd hx hb dL_law_1716 ?_
      refine lv_topi (fun y_74 ey_74 => ?_)
      obtain rfl : y_74 = 2 := ey_74.trans (by decide)
      refine va_sld hx hb hX hbl hbA hS (by rw [hL6]; unfold vp_in; decide) dL_law_1717 ?_
      refine lv_aload_n hx hb dL_law_1718 rfl (lv_at hl 3 rfl) ?_
      refine lv_iload_n hx hb dL_law_1719 rfl (lv_at hl 0 rfl) ?_
      refine lv_iconst (v := 3) hx hb dL_law_1720 (by decide) ?_
      refine lv_iadd hx hb dL_law_1721 ?_
      refine lv_topi (fun y_75 ey_75 => ?_)
      obtain rfl : y_75 = 3 := ey_75.trans (by decide)
      refine va_sld hx hb hX hbl hbA hS (by rw [hL6]; unfold vp_in; decide) dL_law_1722 ?_
      refine lv_aload_n hx hb dL_law_1723 rfl (lv_at hl 3 rfl) ?_
      refine lv_iload_n hx hb dL_law_1724 rfl (lv_at hl 0 rfl) ?_
      refine lv_iconst (v := 4) hx hb dL_law_1725 (by decide) ?_
      refine lv_iadd hx hb dL_law_1726 ?_
      refine lv_topi (fun y_76 ey_76 => ?_)
      obtain rfl : y_76 = 4 := ey_76.trans (by decide)
      refine va_sld hx hb hX hbl hbA hS (by rw [hL6]; unfold vp_in; decide) dL_law_1727 ?_
      refine lv_aload_n hx hb dL_law_1728 rfl (lv_at hl 3 rfl) ?_
      refine lv_iload_n hx hb dL_law_1729 rfl (lv_at hl 0 rfl) ?_
      refine lv_iconst (v := 5) hx hb dL_law_1730 (by decide) ?_
      refine lv_iadd hx hb dL_law_1731 ?_
      refine lv_topi (fun y_77 ey_77 => ?_)
      obtain rfl : y_77 = 5 := ey_77.trans (by decide)
      refine va_sld hx hb hX hbl hbA hS (by rw [hL6]; unfold vp_in; decide) dL_law_1732 ?_
      have hPc := hP.sub (ws' := [(hm_, .inr (12, [.int 0, .int 0, .ref (am 2), .ref (am 3), .ref (am 4), .int 0, .ref (am 6), .ref (am 7), .ref (am 8), .int 0, .ref (am 10), .ref (am 11), .ref (am 12), .ref (am 13), .ref (am 14), .ref (am 15), .int 0, .ref (am 17), .ref (am 18), .ref (am 19), .ref (am 20), .int 0, .ref (am 22), .int 0, .ref (am 24), .ref (am 25), .ref (am 26), .ref (am 27), .ref (am 28), .ref (am 29), .int 0, .ref (am 31), .ref (am 32), .ref (am 33), .int 0, .ref (am 35), .int 0, .ref (am 37), .ref (am 38), .ref (am 39), .ref (am 40), .ref (am 41), .ref (am 42), .ref (am 43), .int 0, .ref (am 45), .ref (am 46), .ref (am 47), .int 0, .ref (am 49), .int 0, .ref (am 51), .int 0, .ref (am 53), .ref (am 54), .int 1, .int 0, .ref (am 57), .long 0, .ref (am 59), .ref (am 60), .long 0, .int 0, .int 0, .int 0, .int 0, .int 0, .int 0, .ref (am 68), .int 0, .int 0, .ref (am 71), .ref (am 72), .ref (am 73), .ref (am 74), .ref (am 75), .ref (am 76), .ref (am 77), .ref (am 78)])), (am 75, .inl (cs 75, 4, .inl fs))]) [6, 7] rfl
      have hKc := hK.sub (tys' := [(cs 75, .int)]) [1] rfl
      refine vp_callSi (va_Run.run (va_runV (As := [.int (xs (1 : Int32).toNatClampNeg), .int (xs (2 : Int32).toNatClampNeg), .int (xs (3 : Int32).toNatClampNeg), .int (xs (4 : Int32).toNatClampNeg), .int (xs (5 : Int32).toNatClampNeg)]) (rest := [.int (-11)]) ⟨hx, hb, hml, hown, hts⟩ (rt_X12_copy l dC dI hm_ am cs fs (xs (1 : Int32).toNatClampNeg) (xs (2 : Int32).toNatClampNeg) (xs (3 : Int32).toNatClampNeg) (xs (4 : Int32).toNatClampNeg) (xs (5 : Int32).toNatClampNeg) hsrt) (cwV 5 hts gL_law_X12_copy rfl rfl rfl (by decide +kernel) ⟨Nat.le_of_ble_eq_true rfl, Nat.le_of_ble_eq_true rfl⟩) ⟨fun a U g mk q => by obtain ⟨q0, qP, qK⟩ := q; exact ⟨q0, qP, va_K.moved (u := U) (U := U.calling g mk a) (Vm.Alike.refl U.vm) qK⟩, va_recv hKc hPc (ci := 12) (q0 := 0) rfl rfl, fun U hU hW => ⟨rfl, by rw [hU]; exact hPc, va_K.moved hW.alike hKc⟩⟩ rfl rfl hl.1 rfl (lv_room (Nat.le_of_ble_eq_true rfl)) dL_law_1733 ⟨by decide +kernel, by decide +kernel⟩)) (fun r_78 hr_78 => ?_)
      have hq : ((-11) : Int32) = r_78 := by
        rcases hr_78 with ⟨a1, e1⟩ | ⟨a1, e1⟩ <;> first | (rw [e1]; done) | (exfalso; (try simp only [fa_lt, fa_le, fa_eq, fa_lt64, fa_le64, fa_eq64, Int32.reduceToInt, Int64.reduceToInt, zi_ite] at c_6); (try simp only [fa_lt, fa_le, fa_eq, fa_lt64, fa_le64, fa_eq64, Int32.reduceToInt, Int64.reduceToInt, zi_ite] at c_43); (try simp only [fa_lt, fa_le, fa_eq, fa_lt64, fa_le64, fa_eq64, Int32.reduceToInt, Int64.reduceToInt, zi_ite] at a1); omega)
      refine lv_icmp_eq (tgt := 1837) hx hb dL_law_1736 (by decide) (fun _ => ?_) (fun c9 => absurd hq c9)
      exact law_fin C0 hL6 hS (by decide +kernel) (by decide +kernel) ls (lv_sub hl [3, 2, 1, 0] rfl)
  · rcases (show ((xs (3 : Int32).toNatClampNeg).toInt < 0 ∨ 4 ≤ (xs (3 : Int32).toNatClampNeg).toInt) ∨ (xs (3 : Int32).toNatClampNeg) = 0 ∨ (xs (3 : Int32).toNatClampNeg) = 1 ∨ (xs (3 : Int32).toNatClampNeg) = 2 ∨ (xs (3 : Int32).toNatClampNeg) = 3 by simp only [fa_eq, Int32.reduceToInt]; omega) with c_79 | c_79 | c_79 | c_79 | c_79
    · have hPc := hP.sub (ws' := [(hc_, .inr (11, [.ref (ad 0), .ref (ad 1), .ref (ad 2), .ref (ad 3), .ref (ad 4), .ref (ad 5), .ref (ad 6), .ref (ad 7), .ref (ad 8), .int 0, .int 0, .int 0, .int 0])), (ad 8, .inl (cd 8, 4, .inr (.inr (.inr (.inr (va_up (va_up (va_up (va_up (fun _ => none) 0 (some (sa 0))) 1 (some (sa 1))) 2 (some (sa 2))) 3 (some (sa 3))))))))]) [0, 1] rfl
      have hKc := hK.sub (tys' := [(cd 8, .object RX7)]) [0] rfl
      refine vp_callSi (va_Run.run (va_runV (As := [.int (xs (1 : Int32).toNatClampNeg), .int (xs (2 : Int32).toNatClampNeg), .int (xs (3 : Int32).toNatClampNeg), .int (xs (4 : Int32).toNatClampNeg), .int (xs (5 : Int32).toNatClampNeg)]) (rest := []) ⟨hx, hb, hml, hown, hts⟩ (rt_X11_copyIO l dC dI hc_ ad (cd 8) (va_up (va_up (va_up (va_up (fun _ => none) 0 (some (sa 0))) 1 (some (sa 1))) 2 (some (sa 2))) 3 (some (sa 3))) (sa 1) (xs (1 : Int32).toNatClampNeg) (xs (2 : Int32).toNatClampNeg) (xs (3 : Int32).toNatClampNeg) (xs (4 : Int32).toNatClampNeg) (xs (5 : Int32).toNatClampNeg) (by rw [c_6]; decide) (by rw [c_6]; rfl) c_79) (cwV 5 hts gL_law_X11_copy rfl rfl rfl (by decide +kernel) ⟨Nat.le_of_ble_eq_true rfl, Nat.le_of_ble_eq_true rfl⟩) ⟨fun a U g mk q => by obtain ⟨q0, qP, qK⟩ := q; exact ⟨q0, qP, va_K.moved (u := U) (U := U.calling g mk a) (Vm.Alike.refl U.vm) qK⟩, va_recv hKc hPc (ci := 11) (q0 := 0) rfl rfl, fun U hU hW => ⟨rfl, by rw [hU]; exact hPc, va_K.moved hW.alike hKc⟩⟩ rfl rfl hl.1 rfl (lv_room (Nat.le_of_ble_eq_true rfl)) dL_law_1704 ⟨by decide +kernel, by decide +kernel⟩)) (fun r_80 hr_80 => ?_)
      obtain rfl := hr_80
      refine lv_aload_n hx hb dL_law_1707 rfl (lv_at hl 1 rfl) ?_
      refine lv_aload_n hx hb dL_law_1708 rfl (lv_at hl 3 rfl) ?_
      refine lv_iload_n hx hb dL_law_1709 rfl (lv_at hl 0 rfl) ?_
      refine lv_iconst (v := 1) hx hb dL_law_1710 (by decide) ?_
      refine lv_iadd hx hb dL_law_1711 ?_
      refine lv_topi (fun y_81 ey_81 => ?_)
      obtain rfl : y_81 = 1 := ey_81.trans (by decide)
      refine va_sld hx hb hX hbl hbA hS (by rw [hL6]; unfold vp_in; decide) dL_law_1712 ?_
      refine lv_aload_n hx hb dL_law_1713 rfl (lv_at hl 3 rfl) ?_
      refine lv_iload_n hx hb dL_law_1714 rfl (lv_at hl 0 rfl) ?_
      refine lv_iconst (v := 2) hx hb dL_law_1715 (by decide) ?_
      refine lv_iadd hx hb dL_law_1716 ?_
      refine lv_topi (fun y_82 ey_82 => ?_)
      obtain rfl : y_82 = 2 := ey_82.trans (by decide)
      refine va_sld hx hb hX hbl hbA hS (by rw [hL6]; unfold vp_in; decide) dL_law_1717 ?_
      refine lv_aload_n hx hb dL_law_1718 rfl (lv_at hl 3 rfl) ?_
      refine lv_iload_n hx hb dL_law_1719 rfl (lv_at hl 0 rfl) ?_
      refine lv_iconst (v := 3) hx hb dL_law_1720 (by decide) ?_
      refine lv_iadd hx hb dL_law_1721 ?_
      refine lv_topi (fun y_83 ey_83 => ?_)
      obtain rfl : y_83 = 3 := ey_83.trans (by decide)
      refine va_sld hx hb hX hbl hbA hS (by rw [hL6]; unfold vp_in; decide) dL_law_1722 ?_
      refine lv_aload_n hx hb dL_law_1723 rfl (lv_at hl 3 rfl) ?_
      refine lv_iload_n hx hb dL_law_1724 rfl (lv_at hl 0 rfl) ?_
      refine lv_iconst (v := 4) hx hb dL_law_1725 (by decide) ?_
      refine lv_iadd hx hb dL_law_1726 ?_
      refine lv_topi (fun y_84 ey_84 => ?_)
      obtain rfl : y_84 = 4 := ey_84.trans (by decide)
      refine va_sld hx hb hX hbl hbA hS (by rw [hL6]; unfold vp_in; decide) dL_law_1727 ?_
      refine lv_aload_n hx hb dL_law_1728 rfl (lv_at hl 3 rfl) ?_
      refine lv_iload_n hx hb dL_law_1729 rfl (lv_at hl 0 rfl) ?_
      refine lv_iconst (v := 5) hx hb dL_law_1730 (by decide) ?_
      refine lv_iadd hx hb dL_law_1731 ?_
      refine lv_topi (fun y_85 ey_85 => ?_)
      obtain rfl : y_85 = 5 := ey_85.trans (by decide)
      refine va_sld hx hb hX hbl hbA hS (by rw [hL6]; unfold vp_in; decide) dL_law_1732 ?_
      have hPc := hP.sub (ws' := [(hm_, .inr (12, [.int 0, .int 0, .ref (am 2), .ref (am 3), .ref (am 4), .int 0, .ref (am 6), .ref (am 7), .ref (am 8), .int 0, .ref (am 10), .ref (am 11), .ref (am 12), .ref (am 13), .ref (am 14), .ref (am 15), .int 0, .ref (am 17), .ref (am 18), .ref (am 19), .ref (am 20), .int 0, .ref (am 22), .int 0, .ref (am 24), .ref (am 25), .ref (am 26), .ref (am 27), .ref (am 28), .ref (am 29), .int 0, .ref (am 31), .ref (am 32), .ref (am 33), .int 0, .ref (am 35), .int 0, .ref (am 37), .ref (am 38), .ref (am 39), .ref (am 40), .ref (am 41), .ref (am 42), .ref (am 43), .int 0, .ref (am 45), .ref (am 46), .ref (am 47), .int 0, .ref (am 49), .int 0, .ref (am 51), .int 0, .ref (am 53), .ref (am 54), .int 1, .int 0, .ref (am 57), .long 0, .ref (am 59), .ref (am 60), .long 0, .int 0, .int 0, .int 0, .int 0, .int 0, .int 0, .ref (am 68), .int 0, .int 0, .ref (am 71), .ref (am 72), .ref (am 73), .ref (am 74), .ref (am 75), .ref (am 76), .ref (am 77), .ref (am 78)])), (am 75, .inl (cs 75, 4, .inl fs))]) [6, 7] rfl
      have hKc := hK.sub (tys' := [(cs 75, .int)]) [1] rfl
      refine vp_callSi (va_Run.run (va_runV (As := [.int (xs (1 : Int32).toNatClampNeg), .int (xs (2 : Int32).toNatClampNeg), .int (xs (3 : Int32).toNatClampNeg), .int (xs (4 : Int32).toNatClampNeg), .int (xs (5 : Int32).toNatClampNeg)]) (rest := [.int (-2)]) ⟨hx, hb, hml, hown, hts⟩ (rt_X12_copy l dC dI hm_ am cs fs (xs (1 : Int32).toNatClampNeg) (xs (2 : Int32).toNatClampNeg) (xs (3 : Int32).toNatClampNeg) (xs (4 : Int32).toNatClampNeg) (xs (5 : Int32).toNatClampNeg) hsrt) (cwV 5 hts gL_law_X12_copy rfl rfl rfl (by decide +kernel) ⟨Nat.le_of_ble_eq_true rfl, Nat.le_of_ble_eq_true rfl⟩) ⟨fun a U g mk q => by obtain ⟨q0, qP, qK⟩ := q; exact ⟨q0, qP, va_K.moved (u := U) (U := U.calling g mk a) (Vm.Alike.refl U.vm) qK⟩, va_recv hKc hPc (ci := 12) (q0 := 0) rfl rfl, fun U hU hW => ⟨rfl, by rw [hU]; exact hPc, va_K.moved hW.alike hKc⟩⟩ rfl rfl hl.1 rfl (lv_room (Nat.le_of_ble_eq_true rfl)) dL_law_1733 ⟨by decide +kernel, by decide +kernel⟩)) (fun r_86 hr_86 => ?_)
      have hq : ((-2) : Int32) = r_86 := by
        rcases hr_86 with ⟨a1, e1⟩ | ⟨a1, e1⟩ <;> first | (rw [e1]; done) | (exfalso; (try simp only [fa_lt, fa_le, fa_eq, fa_lt64, fa_le64, fa_eq64, Int32.reduceToInt, Int64.reduceToInt, zi_ite] at c_6); (try simp only [fa_lt, fa_le, fa_eq, fa_lt64, fa_le64, fa_eq64, Int32.reduceToInt, Int64.reduceToInt, zi_ite] at c_79); (try simp only [fa_lt, fa_le, fa_eq, fa_lt64, fa_le64, fa_eq64, Int32.reduceToInt, Int64.reduceToInt, zi_ite] at a1); omega)
      refine lv_icmp_eq (tgt := 1837) hx hb dL_law_1736 (by decide) (fun _ => ?_) (fun c9 => absurd hq c9)
      exact law_fin C0 hL6 hS (by decide +kernel) (by decide +kernel) ls (lv_sub hl [3, 2, 1, 0] rfl)
    · have hPc := hP.sub (ws' := [(hc_, .inr (11, [.ref (ad 0), .ref (ad 1), .ref (ad 2), .ref (ad 3), .ref (ad 4), .ref (ad 5), .ref (ad 6), .ref (ad 7), .ref (ad 8), .int 0, .int 0, .int 0, .int 0])), (ad 8, .inl (cd 8, 4, .inr (.inr (.inr (.inr (va_up (va_up (va_up (va_up (fun _ => none) 0 (some (sa 0))) 1 (some (sa 1))) 2 (some (sa 2))) 3 (some (sa 3)))))))), (sa 1, .inr (7, [.ref ((fun _ => ai 1) 0), .int (-1), .int 0]))]) [0, 1, 3] rfl
      have hKc := hK.sub (tys' := [(cd 8, .object RX7)]) [0] rfl
      refine vp_callSi (va_Run.run (va_runV (As := [.int (xs (1 : Int32).toNatClampNeg), .int (xs (2 : Int32).toNatClampNeg), .int (xs (3 : Int32).toNatClampNeg), .int (xs (4 : Int32).toNatClampNeg), .int (xs (5 : Int32).toNatClampNeg)]) (rest := []) ⟨hx, hb, hml, hown, hts⟩ (rt_X11_copyII l dC dI hc_ ad (cd 8) (va_up (va_up (va_up (va_up (fun _ => none) 0 (some (sa 0))) 1 (some (sa 1))) 2 (some (sa 2))) 3 (some (sa 3))) (sa 1) (fun _ => ai 1) (sa 0) (xs (1 : Int32).toNatClampNeg) (xs (2 : Int32).toNatClampNeg) (xs (3 : Int32).toNatClampNeg) (xs (4 : Int32).toNatClampNeg) (xs (5 : Int32).toNatClampNeg) (by rw [c_6]; decide) (by rw [c_6]; rfl) (by rw [c_79]; decide) (by rw [c_79]; rfl)) (cwV 5 hts gL_law_X11_copy rfl rfl rfl (by decide +kernel) ⟨Nat.le_of_ble_eq_true rfl, Nat.le_of_ble_eq_true rfl⟩) ⟨fun a U g mk q => by obtain ⟨q0, qP, qK⟩ := q; exact ⟨q0, qP, va_K.moved (u := U) (U := U.calling g mk a) (Vm.Alike.refl U.vm) qK⟩, va_recv hKc hPc (ci := 11) (q0 := 0) rfl rfl, fun U hU hW => ⟨rfl, by rw [hU]; exact hPc, va_K.moved hW.alike hKc⟩⟩ rfl rfl hl.1 rfl (lv_room (Nat.le_of_ble_eq_true rfl)) dL_law_1704 ⟨by decide +kernel, by decide +kernel⟩)) (fun r_87 hr_87 => ?_)
      obtain rfl := hr_87
      refine lv_aload_n hx hb dL_law_1707 rfl (lv_at hl 1 rfl) ?_
      refine lv_aload_n hx hb dL_law_1708 rfl (lv_at hl 3 rfl) ?_
      refine lv_iload_n hx hb dL_law_1709 rfl (lv_at hl 0 rfl) ?_
      refine lv_iconst (v := 1) hx hb dL_law_1710 (by decide) ?_
      refine lv_iadd hx hb dL_law_1711 ?_
      refine lv_topi (fun y_88 ey_88 => ?_)
      obtain rfl : y_88 = 1 := ey_88.trans (by decide)
      refine va_sld hx hb hX hbl hbA hS (by rw [hL6]; unfold vp_in; decide) dL_law_1712 ?_
      refine lv_aload_n hx hb dL_law_1713 rfl (lv_at hl 3 rfl) ?_
      refine lv_iload_n hx hb dL_law_1714 rfl (lv_at hl 0 rfl) ?_
      refine lv_iconst (v := 2) hx hb dL_law_1715 (by decide) ?_
      refine lv_iadd hx hb dL_law_1716 ?_
      refine lv_topi (fun y_89 ey_89 => ?_)
      obtain rfl : y_89 = 2 := ey_89.trans (by decide)
      refine va_sld hx hb hX hbl hbA hS (by rw [hL6]; unfold vp_in; decide) dL_law_1717 ?_
      refine lv_aload_n hx hb dL_law_1718 rfl (lv_at hl 3 rfl) ?_
      refine lv_iload_n hx hb dL_law_1719 rfl (lv_at hl 0 rfl) ?_
      refine lv_iconst (v := 3) hx hb dL_law_1720 (by decide) ?_
      refine lv_iadd hx hb dL_law_1721 ?_
      refine lv_topi (fun y_90 ey_90 => ?_)
      obtain rfl : y_90 = 3 := ey_90.trans (by decide)
      refine va_sld hx hb hX hbl hbA hS (by rw [hL6]; unfold vp_in; decide) dL_law_1722 ?_
      refine lv_aload_n hx hb dL_law_1723 rfl (lv_at hl 3 rfl) ?_
      refine lv_iload_n hx hb dL_law_1724 rfl (lv_at hl 0 rfl) ?_
      refine lv_iconst (v := 4) hx hb dL_law_1725 (by decide) ?_
      refine lv_iadd hx hb dL_law_1726 ?_
      refine lv_topi (fun y_91 ey_91 => ?_)
      obtain rfl : y_91 = 4 := ey_91.trans (by decide)
      refine va_sld hx hb hX hbl hbA hS (by rw [hL6]; unfold vp_in; decide) dL_law_1727 ?_
      refine lv_aload_n hx hb dL_law_1728 rfl (lv_at hl 3 rfl) ?_
      refine lv_iload_n hx hb dL_law_1729 rfl (lv_at hl 0 rfl) ?_
      refine lv_iconst (v := 5) hx hb dL_law_1730 (by decide) ?_
      refine lv_iadd hx hb dL_law_1731 ?_
      refine lv_topi (fun y_92 ey_92 => ?_)
      obtain rfl : y_92 = 5 := ey_92.trans (by decide)
      refine va_sld hx hb hX hbl hbA hS (by rw [hL6]; unfold vp_in; decide) dL_law_1732 ?_
      have hPc := hP.sub (ws' := [(hm_, .inr (12, [.int 0, .int 0, .ref (am 2), .ref (am 3), .ref (am 4), .int 0, .ref (am 6), .ref (am 7), .ref (am 8), .int 0, .ref (am 10), .ref (am 11), .ref (am 12), .ref (am 13), .ref (am 14), .ref (am 15), .int 0, .ref (am 17), .ref (am 18), .ref (am 19), .ref (am 20), .int 0, .ref (am 22), .int 0, .ref (am 24), .ref (am 25), .ref (am 26), .ref (am 27), .ref (am 28), .ref (am 29), .int 0, .ref (am 31), .ref (am 32), .ref (am 33), .int 0, .ref (am 35), .int 0, .ref (am 37), .ref (am 38), .ref (am 39), .ref (am 40), .ref (am 41), .ref (am 42), .ref (am 43), .int 0, .ref (am 45), .ref (am 46), .ref (am 47), .int 0, .ref (am 49), .int 0, .ref (am 51), .int 0, .ref (am 53), .ref (am 54), .int 1, .int 0, .ref (am 57), .long 0, .ref (am 59), .ref (am 60), .long 0, .int 0, .int 0, .int 0, .int 0, .int 0, .int 0, .ref (am 68), .int 0, .int 0, .ref (am 71), .ref (am 72), .ref (am 73), .ref (am 74), .ref (am 75), .ref (am 76), .ref (am 77), .ref (am 78)])), (am 75, .inl (cs 75, 4, .inl fs))]) [6, 7] rfl
      have hKc := hK.sub (tys' := [(cs 75, .int)]) [1] rfl
      refine vp_callSi (va_Run.run (va_runV (As := [.int (xs (1 : Int32).toNatClampNeg), .int (xs (2 : Int32).toNatClampNeg), .int (xs (3 : Int32).toNatClampNeg), .int (xs (4 : Int32).toNatClampNeg), .int (xs (5 : Int32).toNatClampNeg)]) (rest := [.int (-11)]) ⟨hx, hb, hml, hown, hts⟩ (rt_X12_copy l dC dI hm_ am cs fs (xs (1 : Int32).toNatClampNeg) (xs (2 : Int32).toNatClampNeg) (xs (3 : Int32).toNatClampNeg) (xs (4 : Int32).toNatClampNeg) (xs (5 : Int32).toNatClampNeg) hsrt) (cwV 5 hts gL_law_X12_copy rfl rfl rfl (by decide +kernel) ⟨Nat.le_of_ble_eq_true rfl, Nat.le_of_ble_eq_true rfl⟩) ⟨fun a U g mk q => by obtain ⟨q0, qP, qK⟩ := q; exact ⟨q0, qP, va_K.moved (u := U) (U := U.calling g mk a) (Vm.Alike.refl U.vm) qK⟩, va_recv hKc hPc (ci := 12) (q0 := 0) rfl rfl, fun U hU hW => ⟨rfl, by rw [hU]; exact hPc, va_K.moved hW.alike hKc⟩⟩ rfl rfl hl.1 rfl (lv_room (Nat.le_of_ble_eq_true rfl)) dL_law_1733 ⟨by decide +kernel, by decide +kernel⟩)) (fun r_93 hr_93 => ?_)
      have hq : ((-11) : Int32) = r_93 := by
        rcases hr_93 with ⟨a1, e1⟩ | ⟨a1, e1⟩ <;> first | (rw [e1]; done) | (exfalso; (try simp only [fa_lt, fa_le, fa_eq, fa_lt64, fa_le64, fa_eq64, Int32.reduceToInt, Int64.reduceToInt, zi_ite] at c_6); (try simp only [fa_lt, fa_le, fa_eq, fa_lt64, fa_le64, fa_eq64, Int32.reduceToInt, Int64.reduceToInt, zi_ite] at c_79); (try simp only [fa_lt, fa_le, fa_eq, fa_lt64, fa_le64, fa_eq64, Int32.reduceToInt, Int64.reduceToInt, zi_ite] at a1); omega)
      refine lv_icmp_eq (tgt := 1837) hx hb dL_law_1736 (by decide) (fun _ => ?_) (fun c9 => absurd hq c9)
      exact law_fin C0 hL6 hS (by decide +kernel) (by decide +kernel) ls (lv_sub hl [3, 2, 1, 0] rfl)
    · have hPc := hP.sub (ws' := [(hc_, .inr (11, [.ref (ad 0), .ref (ad 1), .ref (ad 2), .ref (ad 3), .ref (ad 4), .ref (ad 5), .ref (ad 6), .ref (ad 7), .ref (ad 8), .int 0, .int 0, .int 0, .int 0])), (ad 8, .inl (cd 8, 4, .inr (.inr (.inr (.inr (va_up (va_up (va_up (va_up (fun _ => none) 0 (some (sa 0))) 1 (some (sa 1))) 2 (some (sa 2))) 3 (some (sa 3)))))))), (sa 1, .inr (7, [.ref ((fun _ => ai 1) 0), .int (-1), .int 0]))]) [0, 1, 3] rfl
      have hKc := hK.sub (tys' := [(cd 8, .object RX7)]) [0] rfl
      refine vp_callSi (va_Run.run (va_runV (As := [.int (xs (1 : Int32).toNatClampNeg), .int (xs (2 : Int32).toNatClampNeg), .int (xs (3 : Int32).toNatClampNeg), .int (xs (4 : Int32).toNatClampNeg), .int (xs (5 : Int32).toNatClampNeg)]) (rest := []) ⟨hx, hb, hml, hown, hts⟩ (rt_X11_copyII l dC dI hc_ ad (cd 8) (va_up (va_up (va_up (va_up (fun _ => none) 0 (some (sa 0))) 1 (some (sa 1))) 2 (some (sa 2))) 3 (some (sa 3))) (sa 1) (fun _ => ai 1) (sa 1) (xs (1 : Int32).toNatClampNeg) (xs (2 : Int32).toNatClampNeg) (xs (3 : Int32).toNatClampNeg) (xs (4 : Int32).toNatClampNeg) (xs (5 : Int32).toNatClampNeg) (by rw [c_6]; decide) (by rw [c_6]; rfl) (by rw [c_79]; decide) (by rw [c_79]; rfl)) (cwV 5 hts gL_law_X11_copy rfl rfl rfl (by decide +kernel) ⟨Nat.le_of_ble_eq_true rfl, Nat.le_of_ble_eq_true rfl⟩) ⟨fun a U g mk q => by obtain ⟨q0, qP, qK⟩ := q; exact ⟨q0, qP, va_K.moved (u := U) (U := U.calling g mk a) (Vm.Alike.refl U.vm) qK⟩, va_recv hKc hPc (ci := 11) (q0 := 0) rfl rfl, fun U hU hW => ⟨rfl, by rw [hU]; exact hPc, va_K.moved hW.alike hKc⟩⟩ rfl rfl hl.1 rfl (lv_room (Nat.le_of_ble_eq_true rfl)) dL_law_1704 ⟨by decide +kernel, by decide +kernel⟩)) (fun r_94 hr_94 => ?_)
      obtain rfl := hr_94
      refine lv_aload_n hx hb dL_law_1707 rfl (lv_at hl 1 rfl) ?_
      refine lv_aload_n hx hb dL_law_1708 rfl (lv_at hl 3 rfl) ?_
      refine lv_iload_n hx hb dL_law_1709 rfl (lv_at hl 0 rfl) ?_
      refine lv_iconst (v := 1) hx hb dL_law_1710 (by decide) ?_
      refine lv_iadd hx hb dL_law_1711 ?_
      refine lv_topi (fun y_95 ey_95 => ?_)
      obtain rfl : y_95 = 1 := ey_95.trans (by decide)
      refine va_sld hx hb hX hbl hbA hS (by rw [hL6]; unfold vp_in; decide) dL_law_1712 ?_
      refine lv_aload_n hx hb dL_law_1713 rfl (lv_at hl 3 rfl) ?_
      refine lv_iload_n hx hb dL_law_1714 rfl (lv_at hl 0 rfl) ?_
      refine lv_iconst (v := 2) hx hb dL_law_1715 (by decide) ?_
      refine lv_iadd hx hb dL_law_1716 ?_
      refine lv_topi (fun y_96 ey_96 => ?_)
      obtain rfl : y_96 = 2 := ey_96.trans (by decide)
      refine va_sld hx hb hX hbl hbA hS (by rw [hL6]; unfold vp_in; decide) dL_law_1717 ?_
      refine lv_aload_n hx hb dL_law_1718 rfl (lv_at hl 3 rfl) ?_
      refine lv_iload_n hx hb dL_law_1719 rfl (lv_at hl 0 rfl) ?_
      refine lv_iconst (v := 3) hx hb dL_law_1720 (by decide) ?_
      refine lv_iadd hx hb dL_law_1721 ?_
      refine lv_topi (fun y_97 ey_97 => ?_)
      obtain rfl : y_97 = 3 := ey_97.trans (by decide)
      refine va_sld hx hb hX hbl hbA hS (by rw [hL6]; unfold vp_in; decide) dL_law_1722 ?_
      refine lv_aload_n hx hb dL_law_1723 rfl (lv_at hl 3 rfl) ?_
      refine lv_iload_n hx hb dL_law_1724 rfl (lv_at hl 0 rfl) ?_
      refine lv_iconst (v := 4) hx hb dL_law_1725 (by decide) ?_
      refine lv_iadd hx hb dL_law_1726 ?_
      refine lv_topi (fun y_98 ey_98 => ?_)
      obtain rfl : y_98 = 4 := ey_98.trans (by decide)
      refine va_sld hx hb hX hbl hbA hS (by rw [hL6]; unfold vp_in; decide) dL_law_1727 ?_
      refine lv_aload_n hx hb dL_law_1728 rfl (lv_at hl 3 rfl) ?_
      refine lv_iload_n hx hb dL_law_1729 rfl (lv_at hl 0 rfl) ?_
      refine lv_iconst (v := 5) hx hb dL_law_1730 (by decide) ?_
      refine lv_iadd hx hb dL_law_1731 ?_
      refine lv_topi (fun y_99 ey_99 => ?_)
      obtain rfl : y_99 = 5 := ey_99.trans (by decide)
      refine va_sld hx hb hX hbl hbA hS (by rw [hL6]; unfold vp_in; decide) dL_law_1732 ?_
      have hPc := hP.sub (ws' := [(hm_, .inr (12, [.int 0, .int 0, .ref (am 2), .ref (am 3), .ref (am 4), .int 0, .ref (am 6), .ref (am 7), .ref (am 8), .int 0, .ref (am 10), .ref (am 11), .ref (am 12), .ref (am 13), .ref (am 14), .ref (am 15), .int 0, .ref (am 17), .ref (am 18), .ref (am 19), .ref (am 20), .int 0, .ref (am 22), .int 0, .ref (am 24), .ref (am 25), .ref (am 26), .ref (am 27), .ref (am 28), .ref (am 29), .int 0, .ref (am 31), .ref (am 32), .ref (am 33), .int 0, .ref (am 35), .int 0, .ref (am 37), .ref (am 38), .ref (am 39), .ref (am 40), .ref (am 41), .ref (am 42), .ref (am 43), .int 0, .ref (am 45), .ref (am 46), .ref (am 47), .int 0, .ref (am 49), .int 0, .ref (am 51), .int 0, .ref (am 53), .ref (am 54), .int 1, .int 0, .ref (am 57), .long 0, .ref (am 59), .ref (am 60), .long 0, .int 0, .int 0, .int 0, .int 0, .int 0, .int 0, .ref (am 68), .int 0, .int 0, .ref (am 71), .ref (am 72), .ref (am 73), .ref (am 74), .ref (am 75), .ref (am 76), .ref (am 77), .ref (am 78)])), (am 75, .inl (cs 75, 4, .inl fs))]) [6, 7] rfl
      have hKc := hK.sub (tys' := [(cs 75, .int)]) [1] rfl
      refine vp_callSi (va_Run.run (va_runV (As := [.int (xs (1 : Int32).toNatClampNeg), .int (xs (2 : Int32).toNatClampNeg), .int (xs (3 : Int32).toNatClampNeg), .int (xs (4 : Int32).toNatClampNeg), .int (xs (5 : Int32).toNatClampNeg)]) (rest := [.int (-11)]) ⟨hx, hb, hml, hown, hts⟩ (rt_X12_copy l dC dI hm_ am cs fs (xs (1 : Int32).toNatClampNeg) (xs (2 : Int32).toNatClampNeg) (xs (3 : Int32).toNatClampNeg) (xs (4 : Int32).toNatClampNeg) (xs (5 : Int32).toNatClampNeg) hsrt) (cwV 5 hts gL_law_X12_copy rfl rfl rfl (by decide +kernel) ⟨Nat.le_of_ble_eq_true rfl, Nat.le_of_ble_eq_true rfl⟩) ⟨fun a U g mk q => by obtain ⟨q0, qP, qK⟩ := q; exact ⟨q0, qP, va_K.moved (u := U) (U := U.calling g mk a) (Vm.Alike.refl U.vm) qK⟩, va_recv hKc hPc (ci := 12) (q0 := 0) rfl rfl, fun U hU hW => ⟨rfl, by rw [hU]; exact hPc, va_K.moved hW.alike hKc⟩⟩ rfl rfl hl.1 rfl (lv_room (Nat.le_of_ble_eq_true rfl)) dL_law_1733 ⟨by decide +kernel, by decide +kernel⟩)) (fun r_100 hr_100 => ?_)
      have hq : ((-11) : Int32) = r_100 := by
        rcases hr_100 with ⟨a1, e1⟩ | ⟨a1, e1⟩ <;> first | (rw [e1]; done) | (exfalso; (try simp only [fa_lt, fa_le, fa_eq, fa_lt64, fa_le64, fa_eq64, Int32.reduceToInt, Int64.reduceToInt, zi_ite] at c_6); (try simp only [fa_lt, fa_le, fa_eq, fa_lt64, fa_le64, fa_eq64, Int32.reduceToInt, Int64.reduceToInt, zi_ite] at c_79); (try simp only [fa_lt, fa_le, fa_eq, fa_lt64, fa_le64, fa_eq64, Int32.reduceToInt, Int64.reduceToInt, zi_ite] at a1); omega)
      refine lv_icmp_eq (tgt := 1837) hx hb dL_law_1736 (by decide) (fun _ => ?_) (fun c9 => absurd hq c9)
      exact law_fin C0 hL6 hS (by decide +kernel) (by decide +kernel) ls (lv_sub hl [3, 2, 1, 0] rfl)
    · have hPc := hP.sub (ws' := [(hc_, .inr (11, [.ref (ad 0), .ref (ad 1), .ref (ad 2), .ref (ad 3), .ref (ad 4), .ref (ad 5), .ref (ad 6), .ref (ad 7), .ref (ad 8), .int 0, .int 0, .int 0, .int 0])), (ad 8, .inl (cd 8, 4, .inr (.inr (.inr (.inr (va_up (va_up (va_up (va_up (fun _ => none) 0 (some (sa 0))) 1 (some (sa 1))) 2 (some (sa 2))) 3 (some (sa 3)))))))), (sa 1, .inr (7, [.ref ((fun _ => ai 1) 0), .int (-1), .int 0]))]) [0, 1, 3] rfl
      have hKc := hK.sub (tys' := [(cd 8, .object RX7)]) [0] rfl
      refine vp_callSi (va_Run.run (va_runV (As := [.int (xs (1 : Int32).toNatClampNeg), .int (xs (2 : Int32).toNatClampNeg), .int (xs (3 : Int32).toNatClampNeg), .int (xs (4 : Int32).toNatClampNeg), .int (xs (5 : Int32).toNatClampNeg)]) (rest := []) ⟨hx, hb, hml, hown, hts⟩ (rt_X11_copyII l dC dI hc_ ad (cd 8) (va_up (va_up (va_up (va_up (fun _ => none) 0 (some (sa 0))) 1 (some (sa 1))) 2 (some (sa 2))) 3 (some (sa 3))) (sa 1) (fun _ => ai 1) (sa 2) (xs (1 : Int32).toNatClampNeg) (xs (2 : Int32).toNatClampNeg) (xs (3 : Int32).toNatClampNeg) (xs (4 : Int32).toNatClampNeg) (xs (5 : Int32).toNatClampNeg) (by rw [c_6]; decide) (by rw [c_6]; rfl) (by rw [c_79]; decide) (by rw [c_79]; rfl)) (cwV 5 hts gL_law_X11_copy rfl rfl rfl (by decide +kernel) ⟨Nat.le_of_ble_eq_true rfl, Nat.le_of_ble_eq_true rfl⟩) ⟨fun a U g mk q => by obtain ⟨q0, qP, qK⟩ := q; exact ⟨q0, qP, va_K.moved (u := U) (U := U.calling g mk a) (Vm.Alike.refl U.vm) qK⟩, va_recv hKc hPc (ci := 11) (q0 := 0) rfl rfl, fun U hU hW => ⟨rfl, by rw [hU]; exact hPc, va_K.moved hW.alike hKc⟩⟩ rfl rfl hl.1 rfl (lv_room (Nat.le_of_ble_eq_true rfl)) dL_law_1704 ⟨by decide +kernel, by decide +kernel⟩)) (fun r_101 hr_101 => ?_)
      obtain rfl := hr_101
      refine lv_aload_n hx hb dL_law_1707 rfl (lv_at hl 1 rfl) ?_
      refine lv_aload_n hx hb dL_law_1708 rfl (lv_at hl 3 rfl) ?_
      refine lv_iload_n hx hb dL_law_1709 rfl (lv_at hl 0 rfl) ?_
      refine lv_iconst (v := 1) hx hb dL_law_1710 (by decide) ?_
      refine lv_iadd hx hb dL_law_1711 ?_
      refine lv_topi (fun y_102 ey_102 => ?_)
      obtain rfl : y_102 = 1 := ey_102.trans (by decide)
      refine va_sld hx hb hX hbl hbA hS (by rw [hL6]; unfold vp_in; decide) dL_law_1712 ?_
      refine lv_aload_n hx hb dL_law_1713 rfl (lv_at hl 3 rfl) ?_
      refine lv_iload_n hx hb dL_law_1714 rfl (lv_at hl 0 rfl) ?_
      refine lv_iconst (v := 2) hx hb dL_law_1715 (by decide) ?_
      refine lv_iadd hx hb dL_law_1716 ?_
      refine lv_topi (fun y_103 ey_103 => ?_)
      obtain rfl : y_103 = 2 := ey_103.trans (by decide)
      refine va_sld hx hb hX hbl hbA hS (by rw [hL6]; unfold vp_in; decide) dL_law_1717 ?_
      refine lv_aload_n hx hb dL_law_1718 rfl (lv_at hl 3 rfl) ?_
      refine lv_iload_n hx hb dL_law_1719 rfl (lv_at hl 0 rfl) ?_
      refine lv_iconst (v := 3) hx hb dL_law_1720 (by decide) ?_
      refine lv_iadd hx hb dL_law_1721 ?_
      refine lv_topi (fun y_104 ey_104 => ?_)
      obtain rfl : y_104 = 3 := ey_104.trans (by decide)
      refine va_sld hx hb hX hbl hbA hS (by rw [hL6]; unfold vp_in; decide) dL_law_1722 ?_
      refine lv_aload_n hx hb dL_law_1723 rfl (lv_at hl 3 rfl) ?_
      refine lv_iload_n hx hb dL_law_1724 rfl (lv_at hl 0 rfl) ?_
      refine lv_iconst (v := 4) hx hb dL_law_1725 (by decide) ?_
      refine lv_iadd hx hb dL_law_1726 ?_
      refine lv_topi (fun y_105 ey_105 => ?_)
      obtain rfl : y_105 = 4 := ey_105.trans (by decide)
      refine va_sld hx hb hX hbl hbA hS (by rw [hL6]; unfold vp_in; decide) dL_law_1727 ?_
      refine lv_aload_n hx hb dL_law_1728 rfl (lv_at hl 3 rfl) ?_
      refine lv_iload_n hx hb dL_law_1729 rfl (lv_at hl 0 rfl) ?_
      refine lv_iconst (v := 5) hx hb dL_law_1730 (by decide) ?_
      refine lv_iadd hx hb dL_law_1731 ?_
      refine lv_topi (fun y_106 ey_106 => ?_)
      obtain rfl : y_106 = 5 := ey_106.trans (by decide)
      refine va_sld hx hb hX hbl hbA hS (by rw [hL6]; unfold vp_in; decide) dL_law_1732 ?_
      have hPc := hP.sub (ws' := [(hm_, .inr (12, [.int 0, .int 0, .ref (am 2), .ref (am 3), .ref (am 4), .int 0, .ref (am 6), .ref (am 7), .ref (am 8), .int 0, .ref (am 10), .ref (am 11), .ref (am 12), .ref (am 13), .ref (am 14), .ref (am 15), .int 0, .ref (am 17), .ref (am 18), .ref (am 19), .ref (am 20), .int 0, .ref (am 22), .int 0, .ref (am 24), .ref (am 25), .ref (am 26), .ref (am 27), .ref (am 28), .ref (am 29), .int 0, .ref (am 31), .ref (am 32), .ref (am 33), .int 0, .ref (am 35), .int 0, .ref (am 37), .ref (am 38), .ref (am 39), .ref (am 40), .ref (am 41), .ref (am 42), .ref (am 43), .int 0, .ref (am 45), .ref (am 46), .ref (am 47), .int 0, .ref (am 49), .int 0, .ref (am 51), .int 0, .ref (am 53), .ref (am 54), .int 1, .int 0, .ref (am 57), .long 0, .ref (am 59), .ref (am 60), .long 0, .int 0, .int 0, .int 0, .int 0, .int 0, .int 0, .ref (am 68), .int 0, .int 0, .ref (am 71), .ref (am 72), .ref (am 73), .ref (am 74), .ref (am 75), .ref (am 76), .ref (am 77), .ref (am 78)])), (am 75, .inl (cs 75, 4, .inl fs))]) [6, 7] rfl
      have hKc := hK.sub (tys' := [(cs 75, .int)]) [1] rfl
      refine vp_callSi (va_Run.run (va_runV (As := [.int (xs (1 : Int32).toNatClampNeg), .int (xs (2 : Int32).toNatClampNeg), .int (xs (3 : Int32).toNatClampNeg), .int (xs (4 : Int32).toNatClampNeg), .int (xs (5 : Int32).toNatClampNeg)]) (rest := [.int (-11)]) ⟨hx, hb, hml, hown, hts⟩ (rt_X12_copy l dC dI hm_ am cs fs (xs (1 : Int32).toNatClampNeg) (xs (2 : Int32).toNatClampNeg) (xs (3 : Int32).toNatClampNeg) (xs (4 : Int32).toNatClampNeg) (xs (5 : Int32).toNatClampNeg) hsrt) (cwV 5 hts gL_law_X12_copy rfl rfl rfl (by decide +kernel) ⟨Nat.le_of_ble_eq_true rfl, Nat.le_of_ble_eq_true rfl⟩) ⟨fun a U g mk q => by obtain ⟨q0, qP, qK⟩ := q; exact ⟨q0, qP, va_K.moved (u := U) (U := U.calling g mk a) (Vm.Alike.refl U.vm) qK⟩, va_recv hKc hPc (ci := 12) (q0 := 0) rfl rfl, fun U hU hW => ⟨rfl, by rw [hU]; exact hPc, va_K.moved hW.alike hKc⟩⟩ rfl rfl hl.1 rfl (lv_room (Nat.le_of_ble_eq_true rfl)) dL_law_1733 ⟨by decide +kernel, by decide +kernel⟩)) (fun r_107 hr_107 => ?_)
      have hq : ((-11) : Int32) = r_107 := by
        rcases hr_107 with ⟨a1, e1⟩ | ⟨a1, e1⟩ <;> first | (rw [e1]; done) | (exfalso; (try simp only [fa_lt, fa_le, fa_eq, fa_lt64, fa_le64, fa_eq64, Int32.reduceToInt, Int64.reduceToInt, zi_ite] at c_6); (try simp only [fa_lt, fa_le, fa_eq, fa_lt64, fa_le64, fa_eq64, Int32.reduceToInt, Int64.reduceToInt, zi_ite] at c_79); (try simp only [fa_lt, fa_le, fa_eq, fa_lt64, fa_le64, fa_eq64, Int32.reduceToInt, Int64.reduceToInt, zi_ite] at a1); omega)
      refine lv_icmp_eq (tgt := 1837) hx hb dL_law_1736 (by decide) (fun _ => ?_) (fun c9 => absurd hq c9)
      exact law_fin C0 hL6 hS (by decide +kernel) (by decide +kernel) ls (lv_sub hl [3, 2, 1, 0] rfl)
    · have hPc := hP.sub (ws' := [(hc_, .inr (11, [.ref (ad 0), .ref (ad 1), .ref (ad 2), .ref (ad 3), .ref (ad 4), .ref (ad 5), .ref (ad 6), .ref (ad 7), .ref (ad 8), .int 0, .int 0, .int 0, .int 0])), (ad 8, .inl (cd 8, 4, .inr (.inr (.inr (.inr (va_up (va_up (va_up (va_up (fun _ => none) 0 (some (sa 0))) 1 (some (sa 1))) 2 (some (sa 2))) 3 (some (sa 3)))))))), (sa 1, .inr (7, [.ref ((fun _ => ai 1) 0), .int (-1), .int 0]))]) [0, 1, 3] rfl
      have hKc := hK.sub (tys' := [(cd 8, .object RX7)]) [0] rfl
      refine vp_callSi (va_Run.run (va_runV (As := [.int (xs (1 : Int32).toNatClampNeg), .int (xs (2 : Int32).toNatClampNeg), .int (xs (3 : Int32).toNatClampNeg), .int (xs (4 : Int32).toNatClampNeg), .int (xs (5 : Int32).toNatClampNeg)]) (rest := []) ⟨hx, hb, hml, hown, hts⟩ (rt_X11_copyII l dC dI hc_ ad (cd 8) (va_up (va_up (va_up (va_up (fun _ => none) 0 (some (sa 0))) 1 (some (sa 1))) 2 (some (sa 2))) 3 (some (sa 3))) (sa 1) (fun _ => ai 1) (sa 3) (xs (1 : Int32).toNatClampNeg) (xs (2 : Int32).toNatClampNeg) (xs (3 : Int32).toNatClampNeg) (xs (4 : Int32).toNatClampNeg) (xs (5 : Int32).toNatClampNeg) (by rw [c_6]; decide) (by rw [c_6]; rfl) (by rw [c_79]; decide) (by rw [c_79]; rfl)) (cwV 5 hts gL_law_X11_copy rfl rfl rfl (by decide +kernel) ⟨Nat.le_of_ble_eq_true rfl, Nat.le_of_ble_eq_true rfl⟩) ⟨fun a U g mk q => by obtain ⟨q0, qP, qK⟩ := q; exact ⟨q0, qP, va_K.moved (u := U) (U := U.calling g mk a) (Vm.Alike.refl U.vm) qK⟩, va_recv hKc hPc (ci := 11) (q0 := 0) rfl rfl, fun U hU hW => ⟨rfl, by rw [hU]; exact hPc, va_K.moved hW.alike hKc⟩⟩ rfl rfl hl.1 rfl (lv_room (Nat.le_of_ble_eq_true rfl)) dL_law_1704 ⟨by decide +kernel, by decide +kernel⟩)) (fun r_108 hr_108 => ?_)
      obtain rfl := hr_108
      refine lv_aload_n hx hb dL_law_1707 rfl (lv_at hl 1 rfl) ?_
      refine lv_aload_n hx hb dL_law_1708 rfl (lv_at hl 3 rfl) ?_
      refine lv_iload_n hx hb dL_law_1709 rfl (lv_at hl 0 rfl) ?_
      refine lv_iconst (v := 1) hx hb dL_law_1710 (by decide) ?_
      refine lv_iadd hx hb dL_law_1711 ?_
      refine lv_topi (fun y_109 ey_109 => ?_)
      obtain rfl : y_109 = 1 := ey_109.trans (by decide)
      refine va_sld hx hb hX hbl hbA hS (by rw [hL6]; unfold vp_in; decide) dL_law_1712 ?_
      refine lv_aload_n hx hb dL_law_1713 rfl (lv_at hl 3 rfl) ?_
      refine lv_iload_n hx hb dL_law_1714 rfl (lv_at hl 0 rfl) ?_
      refine lv_iconst (v := 2) hx hb dL_law_1715 (by decide) ?_
      refine lv_iadd hx hb dL_law_1716 ?_
      refine lv_topi (fun y_110 ey_110 => ?_)
      obtain rfl : y_110 = 2 := ey_110.trans (by decide)
      refine va_sld hx hb hX hbl hbA hS (by rw [hL6]; unfold vp_in; decide) dL_law_1717 ?_
      refine lv_aload_n hx hb dL_law_1718 rfl (lv_at hl 3 rfl) ?_
      refine lv_iload_n hx hb dL_law_1719 rfl (lv_at hl 0 rfl) ?_
      refine lv_iconst (v := 3) hx hb dL_law_1720 (by decide) ?_
      refine lv_iadd hx hb dL_law_1721 ?_
      refine lv_topi (fun y_111 ey_111 => ?_)
      obtain rfl : y_111 = 3 := ey_111.trans (by decide)
      refine va_sld hx hb hX hbl hbA hS (by rw [hL6]; unfold vp_in; decide) dL_law_1722 ?_
      refine lv_aload_n hx hb dL_law_1723 rfl (lv_at hl 3 rfl) ?_
      refine lv_iload_n hx hb dL_law_1724 rfl (lv_at hl 0 rfl) ?_
      refine lv_iconst (v := 4) hx hb dL_law_1725 (by decide) ?_
      refine lv_iadd hx hb dL_law_1726 ?_
      refine lv_topi (fun y_112 ey_112 => ?_)
      obtain rfl : y_112 = 4 := ey_112.trans (by decide)
      refine va_sld hx hb hX hbl hbA hS (by rw [hL6]; unfold vp_in; decide) dL_law_1727 ?_
      refine lv_aload_n hx hb dL_law_1728 rfl (lv_at hl 3 rfl) ?_
      refine lv_iload_n hx hb dL_law_1729 rfl (lv_at hl 0 rfl) ?_
      refine lv_iconst (v := 5) hx hb dL_law_1730 (by decide) ?_
      refine lv_iadd hx hb dL_law_1731 ?_
      refine lv_topi (fun y_113 ey_113 => ?_)
      obtain rfl : y_113 = 5 := ey_113.trans (by decide)
      refine va_sld hx hb hX hbl hbA hS (by rw [hL6]; unfold vp_in; decide) dL_law_1732 ?_
      have hPc := hP.sub (ws' := [(hm_, .inr (12, [.int 0, .int 0, .ref (am 2), .ref (am 3), .ref (am 4), .int 0, .ref (am 6), .ref (am 7), .ref (am 8), .int 0, .ref (am 10), .ref (am 11), .ref (am 12), .ref (am 13), .ref (am 14), .ref (am 15), .int 0, .ref (am 17), .ref (am 18), .ref (am 19), .ref (am 20), .int 0, .ref (am 22), .int 0, .ref (am 24), .ref (am 25), .ref (am 26), .ref (am 27), .ref (am 28), .ref (am 29), .int 0, .ref (am 31), .ref (am 32), .ref (am 33), .int 0, .ref (am 35), .int 0, .ref (am 37), .ref (am 38), .ref (am 39), .ref (am 40), .ref (am 41), .ref (am 42), .ref (am 43), .int 0, .ref (am 45), .ref (am 46), .ref (am 47), .int 0, .ref (am 49), .int 0, .ref (am 51), .int 0, .ref (am 53), .ref (am 54), .int 1, .int 0, .ref (am 57), .long 0, .ref (am 59), .ref (am 60), .long 0, .int 0, .int 0, .int 0, .int 0, .int 0, .int 0, .ref (am 68), .int 0, .int 0, .ref (am 71), .ref (am 72), .ref (am 73), .ref (am 74), .ref (am 75), .ref (am 76), .ref (am 77), .ref (am 78)])), (am 75, .inl (cs 75, 4, .inl fs))]) [6, 7] rfl
      have hKc := hK.sub (tys' := [(cs 75, .int)]) [1] rfl
      refine vp_callSi (va_Run.run (va_runV (As := [.int (xs (1 : Int32).toNatClampNeg), .int (xs (2 : Int32).toNatClampNeg), .int (xs (3 : Int32).toNatClampNeg), .int (xs (4 : Int32).toNatClampNeg), .int (xs (5 : Int32).toNatClampNeg)]) (rest := [.int (-11)]) ⟨hx, hb, hml, hown, hts⟩ (rt_X12_copy l dC dI hm_ am cs fs (xs (1 : Int32).toNatClampNeg) (xs (2 : Int32).toNatClampNeg) (xs (3 : Int32).toNatClampNeg) (xs (4 : Int32).toNatClampNeg) (xs (5 : Int32).toNatClampNeg) hsrt) (cwV 5 hts gL_law_X12_copy rfl rfl rfl (by decide +kernel) ⟨Nat.le_of_ble_eq_true rfl, Nat.le_of_ble_eq_true rfl⟩) ⟨fun a U g mk q => by obtain ⟨q0, qP, qK⟩ := q; exact ⟨q0, qP, va_K.moved (u := U) (U := U.calling g mk a) (Vm.Alike.refl U.vm) qK⟩, va_recv hKc hPc (ci := 12) (q0 := 0) rfl rfl, fun U hU hW => ⟨rfl, by rw [hU]; exact hPc, va_K.moved hW.alike hKc⟩⟩ rfl rfl hl.1 rfl (lv_room (Nat.le_of_ble_eq_true rfl)) dL_law_1733 ⟨by decide +kernel, by decide +kernel⟩)) (fun r_114 hr_114 => ?_)
      have hq : ((-11) : Int32) = r_114 := by
        rcases hr_114 with ⟨a1, e1⟩ | ⟨a1, e1⟩ <;> first | (rw [e1]; done) | (exfalso; (try simp only [fa_lt, fa_le, fa_eq, fa_lt64, fa_le64, fa_eq64, Int32.reduceToInt, Int64.reduceToInt, zi_ite] at c_6); (try simp only [fa_lt, fa_le, fa_eq, fa_lt64, fa_le64, fa_eq64, Int32.reduceToInt, Int64.reduceToInt, zi_ite] at c_79); (try simp only [fa_lt, fa_le, fa_eq, fa_lt64, fa_le64, fa_eq64, Int32.reduceToInt, Int64.reduceToInt, zi_ite] at a1); omega)
      refine lv_icmp_eq (tgt := 1837) hx hb dL_law_1736 (by decide) (fun _ => ?_) (fun c9 => absurd hq c9)
      exact law_fin C0 hL6 hS (by decide +kernel) (by decide +kernel) ls (lv_sub hl [3, 2, 1, 0] rfl)
  · rcases (show ((xs (3 : Int32).toNatClampNeg).toInt < 0 ∨ 4 ≤ (xs (3 : Int32).toNatClampNeg).toInt) ∨ (xs (3 : Int32).toNatClampNeg) = 0 ∨ (xs (3 : Int32).toNatClampNeg) = 1 ∨ (xs (3 : Int32).toNatClampNeg) = 2 ∨ (xs (3 : Int32).toNatClampNeg) = 3 by simp only [fa_eq, Int32.reduceToInt]; omega) with c_115 | c_115 | c_115 | c_115 | c_115
    · have hPc := hP.sub (ws' := [(hc_, .inr (11, [.ref (ad 0), .ref (ad 1), .ref (ad 2), .ref (ad 3), .ref (ad 4), .ref (ad 5), .ref (ad 6), .ref (ad 7), .ref (ad 8), .int 0, .int 0, .int 0, .int 0])), (ad 8, .inl (cd 8, 4, .inr (.inr (.inr (.inr (va_up (va_up (va_up (va_up (fun _ => none) 0 (some (sa 0))) 1 (some (sa 1))) 2 (some (sa 2))) 3 (some (sa 3))))))))]) [0, 1] rfl
      have hKc := hK.sub (tys' := [(cd 8, .object RX7)]) [0] rfl
      refine vp_callSi (va_Run.run (va_runV (As := [.int (xs (1 : Int32).toNatClampNeg), .int (xs (2 : Int32).toNatClampNeg), .int (xs (3 : Int32).toNatClampNeg), .int (xs (4 : Int32).toNatClampNeg), .int (xs (5 : Int32).toNatClampNeg)]) (rest := []) ⟨hx, hb, hml, hown, hts⟩ (rt_X11_copyIO l dC dI hc_ ad (cd 8) (va_up (va_up (va_up (va_up (fun _ => none) 0 (some (sa 0))) 1 (some (sa 1))) 2 (some (sa 2))) 3 (some (sa 3))) (sa 2) (xs (1 : Int32).toNatClampNeg) (xs (2 : Int32).toNatClampNeg) (xs (3 : Int32).toNatClampNeg) (xs (4 : Int32).toNatClampNeg) (xs (5 : Int32).toNatClampNeg) (by rw [c_6]; decide) (by rw [c_6]; rfl) c_115) (cwV 5 hts gL_law_X11_copy rfl rfl rfl (by decide +kernel) ⟨Nat.le_of_ble_eq_true rfl, Nat.le_of_ble_eq_true rfl⟩) ⟨fun a U g mk q => by obtain ⟨q0, qP, qK⟩ := q; exact ⟨q0, qP, va_K.moved (u := U) (U := U.calling g mk a) (Vm.Alike.refl U.vm) qK⟩, va_recv hKc hPc (ci := 11) (q0 := 0) rfl rfl, fun U hU hW => ⟨rfl, by rw [hU]; exact hPc, va_K.moved hW.alike hKc⟩⟩ rfl rfl hl.1 rfl (lv_room (Nat.le_of_ble_eq_true rfl)) dL_law_1704 ⟨by decide +kernel, by decide +kernel⟩)) (fun r_116 hr_116 => ?_)
      obtain rfl := hr_116
      refine lv_aload_n hx hb dL_law_1707 rfl (lv_at hl 1 rfl) ?_
      refine lv_aload_n hx hb dL_law_1708 rfl (lv_at hl 3 rfl) ?_
      refine lv_iload_n hx hb dL_law_1709 rfl (lv_at hl 0 rfl) ?_
      refine lv_iconst (v := 1) hx hb dL_law_1710 (by decide) ?_
      refine lv_iadd hx hb dL_law_1711 ?_
      refine lv_topi (fun y_117 ey_117 => ?_)
      obtain rfl : y_117 = 1 := ey_117.trans (by decide)
      refine va_sld hx hb hX hbl hbA hS (by rw [hL6]; unfold vp_in; decide) dL_law_1712 ?_
      refine lv_aload_n hx hb dL_law_1713 rfl (lv_at hl 3 rfl) ?_
      refine lv_iload_n hx hb dL_law_1714 rfl (lv_at hl 0 rfl) ?_
      refine lv_iconst (v := 2) hx hb dL_law_1715 (by decide) ?_
      refine lv_iadd hx hb dL_law_1716 ?_
      refine lv_topi (fun y_118 ey_118 => ?_)
      obtain rfl : y_118 = 2 := ey_118.trans (by decide)
      refine va_sld hx hb hX hbl hbA hS (by rw [hL6]; unfold vp_in; decide) dL_law_1717 ?_
      refine lv_aload_n hx hb dL_law_1718 rfl (lv_at hl 3 rfl) ?_
      refine lv_iload_n hx hb dL_law_1719 rfl (lv_at hl 0 rfl) ?_
      refine lv_iconst (v := 3) hx hb dL_law_1720 (by decide) ?_
      refine lv_iadd hx hb dL_law_1721 ?_
      refine lv_topi (fun y_119 ey_119 => ?_)
      obtain rfl : y_119 = 3 := ey_119.trans (by decide)
      refine va_sld hx hb hX hbl hbA hS (by rw [hL6]; unfold vp_in; decide) dL_law_1722 ?_
      refine lv_aload_n hx hb dL_law_1723 rfl (lv_at hl 3 rfl) ?_
      refine lv_iload_n hx hb dL_law_1724 rfl (lv_at hl 0 rfl) ?_
      refine lv_iconst (v := 4) hx hb dL_law_1725 (by decide) ?_
      refine lv_iadd hx hb dL_law_1726 ?_
      refine lv_topi (fun y_120 ey_120 => ?_)
      obtain rfl : y_120 = 4 := ey_120.trans (by decide)
      refine va_sld hx hb hX hbl hbA hS (by rw [hL6]; unfold vp_in; decide) dL_law_1727 ?_
      refine lv_aload_n hx hb dL_law_1728 rfl (lv_at hl 3 rfl) ?_
      refine lv_iload_n hx hb dL_law_1729 rfl (lv_at hl 0 rfl) ?_
      refine lv_iconst (v := 5) hx hb dL_law_1730 (by decide) ?_
      refine lv_iadd hx hb dL_law_1731 ?_
      refine lv_topi (fun y_121 ey_121 => ?_)
      obtain rfl : y_121 = 5 := ey_121.trans (by decide)
      refine va_sld hx hb hX hbl hbA hS (by rw [hL6]; unfold vp_in; decide) dL_law_1732 ?_
      have hPc := hP.sub (ws' := [(hm_, .inr (12, [.int 0, .int 0, .ref (am 2), .ref (am 3), .ref (am 4), .int 0, .ref (am 6), .ref (am 7), .ref (am 8), .int 0, .ref (am 10), .ref (am 11), .ref (am 12), .ref (am 13), .ref (am 14), .ref (am 15), .int 0, .ref (am 17), .ref (am 18), .ref (am 19), .ref (am 20), .int 0, .ref (am 22), .int 0, .ref (am 24), .ref (am 25), .ref (am 26), .ref (am 27), .ref (am 28), .ref (am 29), .int 0, .ref (am 31), .ref (am 32), .ref (am 33), .int 0, .ref (am 35), .int 0, .ref (am 37), .ref (am 38), .ref (am 39), .ref (am 40), .ref (am 41), .ref (am 42), .ref (am 43), .int 0, .ref (am 45), .ref (am 46), .ref (am 47), .int 0, .ref (am 49), .int 0, .ref (am 51), .int 0, .ref (am 53), .ref (am 54), .int 1, .int 0, .ref (am 57), .long 0, .ref (am 59), .ref (am 60), .long 0, .int 0, .int 0, .int 0, .int 0, .int 0, .int 0, .ref (am 68), .int 0, .int 0, .ref (am 71), .ref (am 72), .ref (am 73), .ref (am 74), .ref (am 75), .ref (am 76), .ref (am 77), .ref (am 78)])), (am 75, .inl (cs 75, 4, .inl fs))]) [6, 7] rfl
      have hKc := hK.sub (tys' := [(cs 75, .int)]) [1] rfl
      refine vp_callSi (va_Run.run (va_runV (As := [.int (xs (1 : Int32).toNatClampNeg), .int (xs (2 : Int32).toNatClampNeg), .int (xs (3 : Int32).toNatClampNeg), .int (xs (4 : Int32).toNatClampNeg), .int (xs (5 : Int32).toNatClampNeg)]) (rest := [.int (-2)]) ⟨hx, hb, hml, hown, hts⟩ (rt_X12_copy l dC dI hm_ am cs fs (xs (1 : Int32).toNatClampNeg) (xs (2 : Int32).toNatClampNeg) (xs (3 : Int32).toNatClampNeg) (xs (4 : Int32).toNatClampNeg) (xs (5 : Int32).toNatClampNeg) hsrt) (cwV 5 hts gL_law_X12_copy rfl rfl rfl (by decide +kernel) ⟨Nat.le_of_ble_eq_true rfl, Nat.le_of_ble_eq_true rfl⟩) ⟨fun a U g mk q => by obtain ⟨q0, qP, qK⟩ := q; exact ⟨q0, qP, va_K.moved (u := U) (U := U.calling g mk a) (Vm.Alike.refl U.vm) qK⟩, va_recv hKc hPc (ci := 12) (q0 := 0) rfl rfl, fun U hU hW => ⟨rfl, by rw [hU]; exact hPc, va_K.moved hW.alike hKc⟩⟩ rfl rfl hl.1 rfl (lv_room (Nat.le_of_ble_eq_true rfl)) dL_law_1733 ⟨by decide +kernel, by decide +kernel⟩)) (fun r_122 hr_122 => ?_)
      have hq : ((-2) : Int32) = r_122 := by
        rcases hr_122 with ⟨a1, e1⟩ | ⟨a1, e1⟩ <;> first | (rw [e1]; done) | (exfalso; (try simp only [fa_lt, fa_le, fa_eq, fa_lt64, fa_le64, fa_eq64, Int32.reduceToInt, Int64.reduceToInt, zi_ite] at c_6); (try simp only [fa_lt, fa_le, fa_eq, fa_lt64, fa_le64, fa_eq64, Int32.reduceToInt, Int64.reduceToInt, zi_ite] at c_115); (try simp only [fa_lt, fa_le, fa_eq, fa_lt64, fa_le64, fa_eq64, Int32.reduceToInt, Int64.reduceToInt, zi_ite] at a1); omega)
      refine lv_icmp_eq (tgt := 1837) hx hb dL_law_1736 (by decide) (fun _ => ?_) (fun c9 => absurd hq c9)
      exact law_fin C0 hL6 hS (by decide +kernel) (by decide +kernel) ls (lv_sub hl [3, 2, 1, 0] rfl)
    · have hPc := hP.sub (ws' := [(hc_, .inr (11, [.ref (ad 0), .ref (ad 1), .ref (ad 2), .ref (ad 3), .ref (ad 4), .ref (ad 5), .ref (ad 6), .ref (ad 7), .ref (ad 8), .int 0, .int 0, .int 0, .int 0])), (ad 8, .inl (cd 8, 4, .inr (.inr (.inr (.inr (va_up (va_up (va_up (va_up (fun _ => none) 0 (some (sa 0))) 1 (some (sa 1))) 2 (some (sa 2))) 3 (some (sa 3)))))))), (sa 2, .inr (7, [.ref ((fun _ => ai 2) 0), .int (-1), .int 0]))]) [0, 1, 4] rfl
      have hKc := hK.sub (tys' := [(cd 8, .object RX7)]) [0] rfl
      refine vp_callSi (va_Run.run (va_runV (As := [.int (xs (1 : Int32).toNatClampNeg), .int (xs (2 : Int32).toNatClampNeg), .int (xs (3 : Int32).toNatClampNeg), .int (xs (4 : Int32).toNatClampNeg), .int (xs (5 : Int32).toNatClampNeg)]) (rest := []) ⟨hx, hb, hml, hown, hts⟩ (rt_X11_copyII l dC dI hc_ ad (cd 8) (va_up (va_up (va_up (va_up (fun _ => none) 0 (some (sa 0))) 1 (some (sa 1))) 2 (some (sa 2))) 3 (some (sa 3))) (sa 2) (fun _ => ai 2) (sa 0) (xs (1 : Int32).toNatClampNeg) (xs (2 : Int32).toNatClampNeg) (xs (3 : Int32).toNatClampNeg) (xs (4 : Int32).toNatClampNeg) (xs (5 : Int32).toNatClampNeg) (by rw [c_6]; decide) (by rw [c_6]; rfl) (by rw [c_115]; decide) (by rw [c_115]; rfl)) (cwV 5 hts gL_law_X11_copy rfl rfl rfl (by decide +kernel) ⟨Nat.le_of_ble_eq_true rfl, Nat.le_of_ble_eq_true rfl⟩) ⟨fun a U g mk q => by obtain ⟨q0, qP, qK⟩ := q; exact ⟨q0, qP, va_K.moved (u := U) (U := U.calling g mk a) (Vm.Alike.refl U.vm) qK⟩, va_recv hKc hPc (ci := 11) (q0 := 0) rfl rfl, fun U hU hW => ⟨rfl, by rw [hU]; exact hPc, va_K.moved hW.alike hKc⟩⟩ rfl rfl hl.1 rfl (lv_room (Nat.le_of_ble_eq_true rfl)) dL_law_1704 ⟨by decide +kernel, by decide +kernel⟩)) (fun r_123 hr_123 => ?_)
      obtain rfl := hr_123
      refine lv_aload_n hx hb dL_law_1707 rfl (lv_at hl 1 rfl) ?_
      refine lv_aload_n hx hb dL_law_1708 rfl (lv_at hl 3 rfl) ?_
      refine lv_iload_n hx hb dL_law_1709 rfl (lv_at hl 0 rfl) ?_
      refine lv_iconst (v := 1) hx hb dL_law_1710 (by decide) ?_
      refine lv_iadd hx hb dL_law_1711 ?_
      refine lv_topi (fun y_124 ey_124 => ?_)
      obtain rfl : y_124 = 1 := ey_124.trans (by decide)
      refine va_sld hx hb hX hbl hbA hS (by rw [hL6]; unfold vp_in; decide) dL_law_1712 ?_
      refine lv_aload_n hx hb dL_law_1713 rfl (lv_at hl 3 rfl) ?_
      refine lv_iload_n hx hb dL_law_1714 rfl (lv_at hl 0 rfl) ?_
      refine lv_iconst (v := 2) hx hb dL_law_1715 (by decide) ?_
      refine lv_iadd hx hb dL_law_1716 ?_
      refine lv_topi (fun y_125 ey_125 => ?_)
      obtain rfl : y_125 = 2 := ey_125.trans (by decide)
      refine va_sld hx hb hX hbl hbA hS (by rw [hL6]; unfold vp_in; decide) dL_law_1717 ?_
      refine lv_aload_n hx hb dL_law_1718 rfl (lv_at hl 3 rfl) ?_
      refine lv_iload_n hx hb dL_law_1719 rfl (lv_at hl 0 rfl) ?_
      refine lv_iconst (v := 3) hx hb dL_law_1720 (by decide) ?_
      refine lv_iadd hx hb dL_law_1721 ?_
      refine lv_topi (fun y_126 ey_126 => ?_)
      obtain rfl : y_126 = 3 := ey_126.trans (by decide)
      refine va_sld hx hb hX hbl hbA hS (by rw [hL6]; unfold vp_in; decide) dL_law_1722 ?_
      refine lv_aload_n hx hb dL_law_1723 rfl (lv_at hl 3 rfl) ?_
      refine lv_iload_n hx hb dL_law_1724 rfl (lv_at hl 0 rfl) ?_
      refine lv_iconst (v := 4) hx hb dL_law_1725 (by decide) ?_
      refine lv_iadd hx hb dL_law_1726 ?_
      refine lv_topi (fun y_127 ey_127 => ?_)
      obtain rfl : y_127 = 4 := ey_127.trans (by decide)
      refine va_sld hx hb hX hbl hbA hS (by rw [hL6]; unfold vp_in; decide) dL_law_1727 ?_
      refine lv_aload_n hx hb dL_law_1728 rfl (lv_at hl 3 rfl) ?_
      refine lv_iload_n hx hb dL_law_1729 rfl (lv_at hl 0 rfl) ?_
      refine lv_iconst (v := 5) hx hb dL_law_1730 (by decide) ?_
      refine lv_iadd hx hb dL_law_1731 ?_
      refine lv_topi (fun y_128 ey_128 => ?_)
      obtain rfl : y_128 = 5 := ey_128.trans (by decide)
      refine va_sld hx hb hX hbl hbA hS (by rw [hL6]; unfold vp_in; decide) dL_law_1732 ?_
      have hPc := hP.sub (ws' := [(hm_, .inr (12, [.int 0, .int 0, .ref (am 2), .ref (am 3), .ref (am 4), .int 0, .ref (am 6), .ref (am 7), .ref (am 8), .int 0, .ref (am 10), .ref (am 11), .ref (am 12), .ref (am 13), .ref (am 14), .ref (am 15), .int 0, .ref (am 17), .ref (am 18), .ref (am 19), .ref (am 20), .int 0, .ref (am 22), .int 0, .ref (am 24), .ref (am 25), .ref (am 26), .ref (am 27), .ref (am 28), .ref (am 29), .int 0, .ref (am 31), .ref (am 32), .ref (am 33), .int 0, .ref (am 35), .int 0, .ref (am 37), .ref (am 38), .ref (am 39), .ref (am 40), .ref (am 41), .ref (am 42), .ref (am 43), .int 0, .ref (am 45), .ref (am 46), .ref (am 47), .int 0, .ref (am 49), .int 0, .ref (am 51), .int 0, .ref (am 53), .ref (am 54), .int 1, .int 0, .ref (am 57), .long 0, .ref (am 59), .ref (am 60), .long 0, .int 0, .int 0, .int 0, .int 0, .int 0, .int 0, .ref (am 68), .int 0, .int 0, .ref (am 71), .ref (am 72), .ref (am 73), .ref (am 74), .ref (am 75), .ref (am 76), .ref (am 77), .ref (am 78)])), (am 75, .inl (cs 75, 4, .inl fs))]) [6, 7] rfl
      have hKc := hK.sub (tys' := [(cs 75, .int)]) [1] rfl
      refine vp_callSi (va_Run.run (va_runV (As := [.int (xs (1 : Int32).toNatClampNeg), .int (xs (2 : Int32).toNatClampNeg), .int (xs (3 : Int32).toNatClampNeg), .int (xs (4 : Int32).toNatClampNeg), .int (xs (5 : Int32).toNatClampNeg)]) (rest := [.int (-11)]) ⟨hx, hb, hml, hown, hts⟩ (rt_X12_copy l dC dI hm_ am cs fs (xs (1 : Int32).toNatClampNeg) (xs (2 : Int32).toNatClampNeg) (xs (3 : Int32).toNatClampNeg) (xs (4 : Int32).toNatClampNeg) (xs (5 : Int32).toNatClampNeg) hsrt) (cwV 5 hts gL_law_X12_copy rfl rfl rfl (by decide +kernel) ⟨Nat.le_of_ble_eq_true rfl, Nat.le_of_ble_eq_true rfl⟩) ⟨fun a U g mk q => by obtain ⟨q0, qP, qK⟩ := q; exact ⟨q0, qP, va_K.moved (u := U) (U := U.calling g mk a) (Vm.Alike.refl U.vm) qK⟩, va_recv hKc hPc (ci := 12) (q0 := 0) rfl rfl, fun U hU hW => ⟨rfl, by rw [hU]; exact hPc, va_K.moved hW.alike hKc⟩⟩ rfl rfl hl.1 rfl (lv_room (Nat.le_of_ble_eq_true rfl)) dL_law_1733 ⟨by decide +kernel, by decide +kernel⟩)) (fun r_129 hr_129 => ?_)
      have hq : ((-11) : Int32) = r_129 := by
        rcases hr_129 with ⟨a1, e1⟩ | ⟨a1, e1⟩ <;> first | (rw [e1]; done) | (exfalso; (try simp only [fa_lt, fa_le, fa_eq, fa_lt64, fa_le64, fa_eq64, Int32.reduceToInt, Int64.reduceToInt, zi_ite] at c_6); (try simp only [fa_lt, fa_le, fa_eq, fa_lt64, fa_le64, fa_eq64, Int32.reduceToInt, Int64.reduceToInt, zi_ite] at c_115); (try simp only [fa_lt, fa_le, fa_eq, fa_lt64, fa_le64, fa_eq64, Int32.reduceToInt, Int64.reduceToInt, zi_ite] at a1); omega)
      refine lv_icmp_eq (tgt := 1837) hx hb dL_law_1736 (by decide) (fun _ => ?_) (fun c9 => absurd hq c9)
      exact law_fin C0 hL6 hS (by decide +kernel) (by decide +kernel) ls (lv_sub hl [3, 2, 1, 0] rfl)
    · have hPc := hP.sub (ws' := [(hc_, .inr (11, [.ref (ad 0), .ref (ad 1), .ref (ad 2), .ref (ad 3), .ref (ad 4), .ref (ad 5), .ref (ad 6), .ref (ad 7), .ref (ad 8), .int 0, .int 0, .int 0, .int 0])), (ad 8, .inl (cd 8, 4, .inr (.inr (.inr (.inr (va_up (va_up (va_up (va_up (fun _ => none) 0 (some (sa 0))) 1 (some (sa 1))) 2 (some (sa 2))) 3 (some (sa 3)))))))), (sa 2, .inr (7, [.ref ((fun _ => ai 2) 0), .int (-1), .int 0]))]) [0, 1, 4] rfl
      have hKc := hK.sub (tys' := [(cd 8, .object RX7)]) [0] rfl
      refine vp_callSi (va_Run.run (va_runV (As := [.int (xs (1 : Int32).toNatClampNeg), .int (xs (2 : Int32).toNatClampNeg), .int (xs (3 : Int32).toNatClampNeg), .int (xs (4 : Int32).toNatClampNeg), .int (xs (5 : Int32).toNatClampNeg)]) (rest := []) ⟨hx, hb, hml, hown, hts⟩ (rt_X11_copyII l dC dI hc_ ad (cd 8) (va_up (va_up (va_up (va_up (fun _ => none) 0 (some (sa 0))) 1 (some (sa 1))) 2 (some (sa 2))) 3 (some (sa 3))) (sa 2) (fun _ => ai 2) (sa 1) (xs (1 : Int32).toNatClampNeg) (xs (2 : Int32).toNatClampNeg) (xs (3 : Int32).toNatClampNeg) (xs (4 : Int32).toNatClampNeg) (xs (5 : Int32).toNatClampNeg) (by rw [c_6]; decide) (by rw [c_6]; rfl) (by rw [c_115]; decide) (by rw [c_115]; rfl)) (cwV 5 hts gL_law_X11_copy rfl rfl rfl (by decide +kernel) ⟨Nat.le_of_ble_eq_true rfl, Nat.le_of_ble_eq_true rfl⟩) ⟨fun a U g mk q => by obtain ⟨q0, qP, qK⟩ := q; exact ⟨q0, qP, va_K.moved (u := U) (U := U.calling g mk a) (Vm.Alike.refl U.vm) qK⟩, va_recv hKc hPc (ci := 11) (q0 := 0) rfl rfl, fun U hU hW => ⟨rfl, by rw [hU]; exact hPc, va_K.moved hW.alike hKc⟩⟩ rfl rfl hl.1 rfl (lv_room (Nat.le_of_ble_eq_true rfl)) dL_law_1704 ⟨by decide +kernel, by decide +kernel⟩)) (fun r_130 hr_130 => ?_)
      obtain rfl := hr_130
      refine lv_aload_n hx hb dL_law_1707 rfl (lv_at hl 1 rfl) ?_
      refine lv_aload_n hx hb dL_law_1708 rfl (lv_at hl 3 rfl) ?_
      refine lv_iload_n hx hb dL_law_1709 rfl (lv_at hl 0 rfl) ?_
      refine lv_iconst (v := 1) hx hb dL_law_1710 (by decide) ?_
      refine lv_iadd hx hb dL_law_1711 ?_
      refine lv_topi (fun y_131 ey_131 => ?_)
      obtain rfl : y_131 = 1 := ey_131.trans (by decide)
      refine va_sld hx hb hX hbl hbA hS (by rw [hL6]; unfold vp_in; decide) dL_law_1712 ?_
      refine lv_aload_n hx hb dL_law_1713 rfl (lv_at hl 3 rfl) ?_
      refine lv_iload_n hx hb dL_law_1714 rfl (lv_at hl 0 rfl) ?_
      refine lv_iconst (v := 2) hx hb dL_law_1715 (by decide) ?_
      refine lv_iadd hx hb dL_law_1716 ?_
      refine lv_topi (fun y_132 ey_132 => ?_)
      obtain rfl : y_132 = 2 := ey_132.trans (by decide)
      refine va_sld hx hb hX hbl hbA hS (by rw [hL6]; unfold vp_in; decide) dL_law_1717 ?_
      refine lv_aload_n hx hb dL_law_1718 rfl (lv_at hl 3 rfl) ?_
      refine lv_iload_n hx hb dL_law_1719 rfl (lv_at hl 0 rfl) ?_
      refine lv_iconst (v := 3) hx hb dL_law_1720 (by decide) ?_
      refine lv_iadd hx hb dL_law_1721 ?_
      refine lv_topi (fun y_133 ey_133 => ?_)
      obtain rfl : y_133 = 3 := ey_133.trans (by decide)
      refine va_sld hx hb hX hbl hbA hS (by rw [hL6]; unfold vp_in; decide) dL_law_1722 ?_
      refine lv_aload_n hx hb dL_law_1723 rfl (lv_at hl 3 rfl) ?_
      refine lv_iload_n hx hb dL_law_1724 rfl (lv_at hl 0 rfl) ?_
      refine lv_iconst (v := 4) hx hb dL_law_1725 (by decide) ?_
      refine lv_iadd hx hb dL_law_1726 ?_
      refine lv_topi (fun y_134 ey_134 => ?_)
      obtain rfl : y_134 = 4 := ey_134.trans (by decide)
      refine va_sld hx hb hX hbl hbA hS (by rw [hL6]; unfold vp_in; decide) dL_law_1727 ?_
      refine lv_aload_n hx hb dL_law_1728 rfl (lv_at hl 3 rfl) ?_
      refine lv_iload_n hx hb dL_law_1729 rfl (lv_at hl 0 rfl) ?_
      refine lv_iconst (v := 5) hx hb dL_law_1730 (by decide) ?_
      refine lv_iadd hx hb dL_law_1731 ?_
      refine lv_topi (fun y_135 ey_135 => ?_)
      obtain rfl : y_135 = 5 := ey_135.trans (by decide)
      refine va_sld hx hb hX hbl hbA hS (by rw [hL6]; unfold vp_in; decide) dL_law_1732 ?_
      have hPc := hP.sub (ws' := [(hm_, .inr (12, [.int 0, .int 0, .ref (am 2), .ref (am 3), .ref (am 4), .int 0, .ref (am 6), .ref (am 7), .ref (am 8), .int 0, .ref (am 10), .ref (am 11), .ref (am 12), .ref (am 13), .ref (am 14), .ref (am 15), .int 0, .ref (am 17), .ref (am 18), .ref (am 19), .ref (am 20), .int 0, .ref (am 22), .int 0, .ref (am 24), .ref (am 25), .ref (am 26), .ref (am 27), .ref (am 28), .ref (am 29), .int 0, .ref (am 31), .ref (am 32), .ref (am 33), .int 0, .ref (am 35), .int 0, .ref (am 37), .ref (am 38), .ref (am 39), .ref (am 40), .ref (am 41), .ref (am 42), .ref (am 43), .int 0, .ref (am 45), .ref (am 46), .ref (am 47), .int 0, .ref (am 49), .int 0, .ref (am 51), .int 0, .ref (am 53), .ref (am 54), .int 1, .int 0, .ref (am 57), .long 0, .ref (am 59), .ref (am 60), .long 0, .int 0, .int 0, .int 0, .int 0, .int 0, .int 0, .ref (am 68), .int 0, .int 0, .ref (am 71), .ref (am 72), .ref (am 73), .ref (am 74), .ref (am 75), .ref (am 76), .ref (am 77), .ref (am 78)])), (am 75, .inl (cs 75, 4, .inl fs))]) [6, 7] rfl
      have hKc := hK.sub (tys' := [(cs 75, .int)]) [1] rfl
      refine vp_callSi (va_Run.run (va_runV (As := [.int (xs (1 : Int32).toNatClampNeg), .int (xs (2 : Int32).toNatClampNeg), .int (xs (3 : Int32).toNatClampNeg), .int (xs (4 : Int32).toNatClampNeg), .int (xs (5 : Int32).toNatClampNeg)]) (rest := [.int (-11)]) ⟨hx, hb, hml, hown, hts⟩ (rt_X12_copy l dC dI hm_ am cs fs (xs (1 : Int32).toNatClampNeg) (xs (2 : Int32).toNatClampNeg) (xs (3 : Int32).toNatClampNeg) (xs (4 : Int32).toNatClampNeg) (xs (5 : Int32).toNatClampNeg) hsrt) (cwV 5 hts gL_law_X12_copy rfl rfl rfl (by decide +kernel) ⟨Nat.le_of_ble_eq_true rfl, Nat.le_of_ble_eq_true rfl⟩) ⟨fun a U g mk q => by obtain ⟨q0, qP, qK⟩ := q; exact ⟨q0, qP, va_K.moved (u := U) (U := U.calling g mk a) (Vm.Alike.refl U.vm) qK⟩, va_recv hKc hPc (ci := 12) (q0 := 0) rfl rfl, fun U hU hW => ⟨rfl, by rw [hU]; exact hPc, va_K.moved hW.alike hKc⟩⟩ rfl rfl hl.1 rfl (lv_room (Nat.le_of_ble_eq_true rfl)) dL_law_1733 ⟨by decide +kernel, by decide +kernel⟩)) (fun r_136 hr_136 => ?_)
      have hq : ((-11) : Int32) = r_136 := by
        rcases hr_136 with ⟨a1, e1⟩ | ⟨a1, e1⟩ <;> first | (rw [e1]; done) | (exfalso; (try simp only [fa_lt, fa_le, fa_eq, fa_lt64, fa_le64, fa_eq64, Int32.reduceToInt, Int64.reduceToInt, zi_ite] at c_6); (try simp only [fa_lt, fa_le, fa_eq, fa_lt64, fa_le64, fa_eq64, Int32.reduceToInt, Int64.reduceToInt, zi_ite] at c_115); (try simp only [fa_lt, fa_le, fa_eq, fa_lt64, fa_le64, fa_eq64, Int32.reduceToInt, Int64.reduceToInt, zi_ite] at a1); omega)
      refine lv_icmp_eq (tgt := 1837) hx hb dL_law_1736 (by decide) (fun _ => ?_) (fun c9 => absurd hq c9)
      exact law_fin C0 hL6 hS (by decide +kernel) (by decide +kernel) ls (lv_sub hl [3, 2, 1, 0] rfl)
    · have hPc := hP.sub (ws' := [(hc_, .inr (11, [.ref (ad 0), .ref (ad 1), .ref (ad 2), .ref (ad 3), .ref (ad 4), .ref (ad 5), .ref (ad 6), .ref (ad 7), .ref (ad 8), .int 0, .int 0, .int 0, .int 0])), (ad 8, .inl (cd 8, 4, .inr (.inr (.inr (.inr (va_up (va_up (va_up (va_up (fun _ => none) 0 (some (sa 0))) 1 (some (sa 1))) 2 (some (sa 2))) 3 (some (sa 3)))))))), (sa 2, .inr (7, [.ref ((fun _ => ai 2) 0), .int (-1), .int 0]))]) [0, 1, 4] rfl
      have hKc := hK.sub (tys' := [(cd 8, .object RX7)]) [0] rfl
      refine vp_callSi (va_Run.run (va_runV (As := [.int (xs (1 : Int32).toNatClampNeg), .int (xs (2 : Int32).toNatClampNeg), .int (xs (3 : Int32).toNatClampNeg), .int (xs (4 : Int32).toNatClampNeg), .int (xs (5 : Int32).toNatClampNeg)]) (rest := []) ⟨hx, hb, hml, hown, hts⟩ (rt_X11_copyII l dC dI hc_ ad (cd 8) (va_up (va_up (va_up (va_up (fun _ => none) 0 (some (sa 0))) 1 (some (sa 1))) 2 (some (sa 2))) 3 (some (sa 3))) (sa 2) (fun _ => ai 2) (sa 2) (xs (1 : Int32).toNatClampNeg) (xs (2 : Int32).toNatClampNeg) (xs (3 : Int32).toNatClampNeg) (xs (4 : Int32).toNatClampNeg) (xs (5 : Int32).toNatClampNeg) (by rw [c_6]; decide) (by rw [c_6]; rfl) (by rw [c_115]; decide) (by rw [c_115]; rfl)) (cwV 5 hts gL_law_X11_copy rfl rfl rfl (by decide +kernel) ⟨Nat.le_of_ble_eq_true rfl, Nat.le_of_ble_eq_true rfl⟩) ⟨fun a U g mk q => by obtain ⟨q0, qP, qK⟩ := q; exact ⟨q0, qP, va_K.moved (u := U) (U := U.calling g mk a) (Vm.Alike.refl U.vm) qK⟩, va_recv hKc hPc (ci := 11) (q0 := 0) rfl rfl, fun U hU hW => ⟨rfl, by rw [hU]; exact hPc, va_K.moved hW.alike hKc⟩⟩ rfl rfl hl.1 rfl (lv_room (Nat.le_of_ble_eq_true rfl)) dL_law_1704 ⟨by decide +kernel, by decide +kernel⟩)) (fun r_137 hr_137 => ?_)
      obtain rfl := hr_137
      refine lv_aload_n hx hb dL_law_1707 rfl (lv_at hl 1 rfl) ?_
      refine lv_aload_n hx hb dL_law_1708 rfl (lv_at hl 3 rfl) ?_
      refine lv_iload_n hx hb dL_law_1709 rfl (lv_at hl 0 rfl) ?_
      refine lv_iconst (v := 1) hx hb dL_law_1710 (by decide) ?_
      refine lv_iadd hx hb dL_law_1711 ?_
      refine lv_topi (fun y_138 ey_138 => ?_)
      obtain rfl : y_138 = 1 := ey_138.trans (by decide)
      refine va_sld hx hb hX hbl hbA hS (by rw [hL6]; unfold vp_in; decide) dL_law_1712 ?_
      refine lv_aload_n hx hb dL_law_1713 rfl (lv_at hl 3 rfl) ?_
      refine lv_iload_n hx hb dL_law_1714 rfl (lv_at hl 0 rfl) ?_
      refine lv_iconst (v := 2) hx hb dL_law_1715 (by decide) ?_
      refine lv_iadd hx hb dL_law_1716 ?_
      refine lv_topi (fun y_139 ey_139 => ?_)
      obtain rfl : y_139 = 2 := ey_139.trans (by decide)
      refine va_sld hx hb hX hbl hbA hS (by rw [hL6]; unfold vp_in; decide) dL_law_1717 ?_
      refine lv_aload_n hx hb dL_law_1718 rfl (lv_at hl 3 rfl) ?_
      refine lv_iload_n hx hb dL_law_1719 rfl (lv_at hl 0 rfl) ?_
      refine lv_iconst (v := 3) hx hb dL_law_1720 (by decide) ?_
      refine lv_iadd hx hb dL_law_1721 ?_
      refine lv_topi (fun y_140 ey_140 => ?_)
      obtain rfl : y_140 = 3 := ey_140.trans (by decide)
      refine va_sld hx hb hX hbl hbA hS (by rw [hL6]; unfold vp_in; decide) dL_law_1722 ?_
      refine lv_aload_n hx hb dL_law_1723 rfl (lv_at hl 3 rfl) ?_
      refine lv_iload_n hx hb dL_law_1724 rfl (lv_at hl 0 rfl) ?_
      refine lv_iconst (v := 4) hx hb dL_law_1725 (by decide) ?_
      refine lv_iadd hx hb dL_law_1726 ?_
      refine lv_topi (fun y_141 ey_141 => ?_)
      obtain rfl : y_141 = 4 := ey_141.trans (by decide)
      refine va_sld hx hb hX hbl hbA hS (by rw [hL6]; unfold vp_in; decide) dL_law_1727 ?_
      refine lv_aload_n hx hb dL_law_1728 rfl (lv_at hl 3 rfl) ?_
      refine lv_iload_n hx hb dL_law_1729 rfl (lv_at hl 0 rfl) ?_
      refine lv_iconst (v := 5) hx hb dL_law_1730 (by decide) ?_
      refine lv_iadd hx hb dL_law_1731 ?_
      refine lv_topi (fun y_142 ey_142 => ?_)
      obtain rfl : y_142 = 5 := ey_142.trans (by decide)
      refine va_sld hx hb hX hbl hbA hS (by rw [hL6]; unfold vp_in; decide) dL_law_1732 ?_
      have hPc := hP.sub (ws' := [(hm_, .inr (12, [.int 0, .int 0, .ref (am 2), .ref (am 3), .ref (am 4), .int 0, .ref (am 6), .ref (am 7), .ref (am 8), .int 0, .ref (am 10), .ref (am 11), .ref (am 12), .ref (am 13), .ref (am 14), .ref (am 15), .int 0, .ref (am 17), .ref (am 18), .ref (am 19), .ref (am 20), .int 0, .ref (am 22), .int 0, .ref (am 24), .ref (am 25), .ref (am 26), .ref (am 27), .ref (am 28), .ref (am 29), .int 0, .ref (am 31), .ref (am 32), .ref (am 33), .int 0, .ref (am 35), .int 0, .ref (am 37), .ref (am 38), .ref (am 39), .ref (am 40), .ref (am 41), .ref (am 42), .ref (am 43), .int 0, .ref (am 45), .ref (am 46), .ref (am 47), .int 0, .ref (am 49), .int 0, .ref (am 51), .int 0, .ref (am 53), .ref (am 54), .int 1, .int 0, .ref (am 57), .long 0, .ref (am 59), .ref (am 60), .long 0, .int 0, .int 0, .int 0, .int 0, .int 0, .int 0, .ref (am 68), .int 0, .int 0, .ref (am 71), .ref (am 72), .ref (am 73), .ref (am 74), .ref (am 75), .ref (am 76), .ref (am 77), .ref (am 78)])), (am 75, .inl (cs 75, 4, .inl fs))]) [6, 7] rfl
      have hKc := hK.sub (tys' := [(cs 75, .int)]) [1] rfl
      refine vp_callSi (va_Run.run (va_runV (As := [.int (xs (1 : Int32).toNatClampNeg), .int (xs (2 : Int32).toNatClampNeg), .int (xs (3 : Int32).toNatClampNeg), .int (xs (4 : Int32).toNatClampNeg), .int (xs (5 : Int32).toNatClampNeg)]) (rest := [.int (-11)]) ⟨hx, hb, hml, hown, hts⟩ (rt_X12_copy l dC dI hm_ am cs fs (xs (1 : Int32).toNatClampNeg) (xs (2 : Int32).toNatClampNeg) (xs (3 : Int32).toNatClampNeg) (xs (4 : Int32).toNatClampNeg) (xs (5 : Int32).toNatClampNeg) hsrt) (cwV 5 hts gL_law_X12_copy rfl rfl rfl (by decide +kernel) ⟨Nat.le_of_ble_eq_true rfl, Nat.le_of_ble_eq_true rfl⟩) ⟨fun a U g mk q => by obtain ⟨q0, qP, qK⟩ := q; exact ⟨q0, qP, va_K.moved (u := U) (U := U.calling g mk a) (Vm.Alike.refl U.vm) qK⟩, va_recv hKc hPc (ci := 12) (q0 := 0) rfl rfl, fun U hU hW => ⟨rfl, by rw [hU]; exact hPc, va_K.moved hW.alike hKc⟩⟩ rfl rfl hl.1 rfl (lv_room (Nat.le_of_ble_eq_true rfl)) dL_law_1733 ⟨by decide +kernel, by decide +kernel⟩)) (fun r_143 hr_143 => ?_)
      have hq : ((-11) : Int32) = r_143 := by
        rcases hr_143 with ⟨a1, e1⟩ | ⟨a1, e1⟩ <;> first | (rw [e1]; done) | (exfalso; (try simp only [fa_lt, fa_le, fa_eq, fa_lt64, fa_le64, fa_eq64, Int32.reduceToInt, Int64.reduceToInt, zi_ite] at c_6); (try simp only [fa_lt, fa_le, fa_eq, fa_lt64, fa_le64, fa_eq64, Int32.reduceToInt, Int64.reduceToInt, zi_ite] at c_115); (try simp only [fa_lt, fa_le, fa_eq, fa_lt64, fa_le64, fa_eq64, Int32.reduceToInt, Int64.reduceToInt, zi_ite] at a1); omega)
      refine lv_icmp_eq (tgt := 1837) hx hb dL_law_1736 (by decide) (fun _ => ?_) (fun c9 => absurd hq c9)
      exact law_fin C0 hL6 hS (by decide +kernel) (by decide +kernel) ls (lv_sub hl [3, 2, 1, 0] rfl)
    · have hPc := hP.sub (ws' := [(hc_, .inr (11, [.ref (ad 0), .ref (ad 1), .ref (ad 2), .ref (ad 3), .ref (ad 4), .ref (ad 5), .ref (ad 6), .ref (ad 7), .ref (ad 8), .int 0, .int 0, .int 0, .int 0])), (ad 8, .inl (cd 8, 4, .inr (.inr (.inr (.inr (va_up (va_up (va_up (va_up (fun _ => none) 0 (some (sa 0))) 1 (some (sa 1))) 2 (some (sa 2))) 3 (some (sa 3)))))))), (sa 2, .inr (7, [.ref ((fun _ => ai 2) 0), .int (-1), .int 0]))]) [0, 1, 4] rfl
      have hKc := hK.sub (tys' := [(cd 8, .object RX7)]) [0] rfl
      refine vp_callSi (va_Run.run (va_runV (As := [.int (xs (1 : Int32).toNatClampNeg), .int (xs (2 : Int32).toNatClampNeg), .int (xs (3 : Int32).toNatClampNeg), .int (xs (4 : Int32).toNatClampNeg), .int (xs (5 : Int32).toNatClampNeg)]) (rest := []) ⟨hx, hb, hml, hown, hts⟩ (rt_X11_copyII l dC dI hc_ ad (cd 8) (va_up (va_up (va_up (va_up (fun _ => none) 0 (some (sa 0))) 1 (some (sa 1))) 2 (some (sa 2))) 3 (some (sa 3))) (sa 2) (fun _ => ai 2) (sa 3) (xs (1 : Int32).toNatClampNeg) (xs (2 : Int32).toNatClampNeg) (xs (3 : Int32).toNatClampNeg) (xs (4 : Int32).toNatClampNeg) (xs (5 : Int32).toNatClampNeg) (by rw [c_6]; decide) (by rw [c_6]; rfl) (by rw [c_115]; decide) (by rw [c_115]; rfl)) (cwV 5 hts gL_law_X11_copy rfl rfl rfl (by decide +kernel) ⟨Nat.le_of_ble_eq_true rfl, Nat.le_of_ble_eq_true rfl⟩) ⟨fun a U g mk q => by obtain ⟨q0, qP, qK⟩ := q; exact ⟨q0, qP, va_K.moved (u := U) (U := U.calling g mk a) (Vm.Alike.refl U.vm) qK⟩, va_recv hKc hPc (ci := 11) (q0 := 0) rfl rfl, fun U hU hW => ⟨rfl, by rw [hU]; exact hPc, va_K.moved hW.alike hKc⟩⟩ rfl rfl hl.1 rfl (lv_room (Nat.le_of_ble_eq_true rfl)) dL_law_1704 ⟨by decide +kernel, by decide +kernel⟩)) (fun r_144 hr_144 => ?_)
      obtain rfl := hr_144
      refine lv_aload_n hx hb dL_law_1707 rfl (lv_at hl 1 rfl) ?_
      refine lv_aload_n hx hb dL_law_1708 rfl (lv_at hl 3 rfl) ?_
      refine lv_iload_n hx hb dL_law_1709 rfl (lv_at hl 0 rfl) ?_
      refine lv_iconst (v := 1) hx hb dL_law_1710 (by decide) ?_
      refine lv_iadd hx hb dL_law_1711 ?_
      refine lv_topi (fun y_145 ey_145 => ?_)
      obtain rfl : y_145 = 1 := ey_145.trans (by decide)
      refine va_sld hx hb hX hbl hbA hS (by rw [hL6]; unfold vp_in; decide) dL_law_1712 ?_
      refine lv_aload_n hx hb dL_law_1713 rfl (lv_at hl 3 rfl) ?_
      refine lv_iload_n hx hb dL_law_1714 rfl (lv_at hl 0 rfl) ?_
      refine lv_iconst (v := 2) hx hb dL_law_1715 (by decide) ?_
      refine lv_iadd hx hb dL_law_1716 ?_
      refine lv_topi (fun y_146 ey_146 => ?_)
      obtain rfl : y_146 = 2 := ey_146.trans (by decide)
      refine va_sld hx hb hX hbl hbA hS (by rw [hL6]; unfold vp_in; decide) dL_law_1717 ?_
      refine lv_aload_n hx hb dL_law_1718 rfl (lv_at hl 3 rfl) ?_
      refine lv_iload_n hx hb dL_law_1719 rfl (lv_at hl 0 rfl) ?_
      refine lv_iconst (v := 3) hx hb dL_law_1720 (by decide) ?_
      refine lv_iadd hx hb dL_law_1721 ?_
      refine lv_topi (fun y_147 ey_147 => ?_)
      obtain rfl : y_147 = 3 := ey_147.trans (by decide)
      refine va_sld hx hb hX hbl hbA hS (by rw [hL6]; unfold vp_in; decide) dL_law_1722 ?_
      refine lv_aload_n hx hb dL_law_1723 rfl (lv_at hl 3 rfl) ?_
      refine lv_iload_n hx hb dL_law_1724 rfl (lv_at hl 0 rfl) ?_
      refine lv_iconst (v := 4) hx hb dL_law_1725 (by decide) ?_
      refine lv_iadd hx hb dL_law_1726 ?_
      refine lv_topi (fun y_148 ey_148 => ?_)
      obtain rfl : y_148 = 4 := ey_148.trans (by decide)
      refine va_sld hx hb hX hbl hbA hS (by rw [hL6]; unfold vp_in; decide) dL_law_1727 ?_
      refine lv_aload_n hx hb dL_law_1728 rfl (lv_at hl 3 rfl) ?_
      refine lv_iload_n hx hb dL_law_1729 rfl (lv_at hl 0 rfl) ?_
      refine lv_iconst (v := 5) hx hb dL_law_1730 (by decide) ?_
      refine lv_iadd hx hb dL_law_1731 ?_
      refine lv_topi (fun y_149 ey_149 => ?_)
      obtain rfl : y_149 = 5 := ey_149.trans (by decide)
      refine va_sld hx hb hX hbl hbA hS (by rw [hL6]; unfold vp_in; decide) dL_law_1732 ?_
      have hPc := hP.sub (ws' := [(hm_, .inr (12, [.int 0, .int 0, .ref (am 2), .ref (am 3), .ref (am 4), .int 0, .ref (am 6), .ref (am 7), .ref (am 8), .int 0, .ref (am 10), .ref (am 11), .ref (am 12), .ref (am 13), .ref (am 14), .ref (am 15), .int 0, .ref (am 17), .ref (am 18), .ref (am 19), .ref (am 20), .int 0, .ref (am 22), .int 0, .ref (am 24), .ref (am 25), .ref (am 26), .ref (am 27), .ref (am 28), .ref (am 29), .int 0, .ref (am 31), .ref (am 32), .ref (am 33), .int 0, .ref (am 35), .int 0, .ref (am 37), .ref (am 38), .ref (am 39), .ref (am 40), .ref (am 41), .ref (am 42), .ref (am 43), .int 0, .ref (am 45), .ref (am 46), .ref (am 47), .int 0, .ref (am 49), .int 0, .ref (am 51), .int 0, .ref (am 53), .ref (am 54), .int 1, .int 0, .ref (am 57), .long 0, .ref (am 59), .ref (am 60), .long 0, .int 0, .int 0, .int 0, .int 0, .int 0, .int 0, .ref (am 68), .int 0, .int 0, .ref (am 71), .ref (am 72), .ref (am 73), .ref (am 74), .ref (am 75), .ref (am 76), .ref (am 77), .ref (am 78)])), (am 75, .inl (cs 75, 4, .inl fs))]) [6, 7] rfl
      have hKc := hK.sub (tys' := [(cs 75, .int)]) [1] rfl
      refine vp_callSi (va_Run.run (va_runV (As := [.int (xs (1 : Int32).toNatClampNeg), .int (xs (2 : Int32).toNatClampNeg), .int (xs (3 : Int32).toNatClampNeg), .int (xs (4 : Int32).toNatClampNeg), .int (xs (5 : Int32).toNatClampNeg)]) (rest := [.int (-11)]) ⟨hx, hb, hml, hown, hts⟩ (rt_X12_copy l dC dI hm_ am cs fs (xs (1 : Int32).toNatClampNeg) (xs (2 : Int32).toNatClampNeg) (xs (3 : Int32).toNatClampNeg) (xs (4 : Int32).toNatClampNeg) (xs (5 : Int32).toNatClampNeg) hsrt) (cwV 5 hts gL_law_X12_copy rfl rfl rfl (by decide +kernel) ⟨Nat.le_of_ble_eq_true rfl, Nat.le_of_ble_eq_true rfl⟩) ⟨fun a U g mk q => by obtain ⟨q0, qP, qK⟩ := q; exact ⟨q0, qP, va_K.moved (u := U) (U := U.calling g mk a) (Vm.Alike.refl U.vm) qK⟩, va_recv hKc hPc (ci := 12) (q0 := 0) rfl rfl, fun U hU hW => ⟨rfl, by rw [hU]; exact hPc, va_K.moved hW.alike hKc⟩⟩ rfl rfl hl.1 rfl (lv_room (Nat.le_of_ble_eq_true rfl)) dL_law_1733 ⟨by decide +kernel, by decide +kernel⟩)) (fun r_150 hr_150 => ?_)
      have hq : ((-11) : Int32) = r_150 := by
        rcases hr_150 with ⟨a1, e1⟩ | ⟨a1, e1⟩ <;> first | (rw [e1]; done) | (exfalso; (try simp only [fa_lt, fa_le, fa_eq, fa_lt64, fa_le64, fa_eq64, Int32.reduceToInt, Int64.reduceToInt, zi_ite] at c_6); (try simp only [fa_lt, fa_le, fa_eq, fa_lt64, fa_le64, fa_eq64, Int32.reduceToInt, Int64.reduceToInt, zi_ite] at c_115); (try simp only [fa_lt, fa_le, fa_eq, fa_lt64, fa_le64, fa_eq64, Int32.reduceToInt, Int64.reduceToInt, zi_ite] at a1); omega)
      refine lv_icmp_eq (tgt := 1837) hx hb dL_law_1736 (by decide) (fun _ => ?_) (fun c9 => absurd hq c9)
      exact law_fin C0 hL6 hS (by decide +kernel) (by decide +kernel) ls (lv_sub hl [3, 2, 1, 0] rfl)
  · rcases (show ((xs (3 : Int32).toNatClampNeg).toInt < 0 ∨ 4 ≤ (xs (3 : Int32).toNatClampNeg).toInt) ∨ (xs (3 : Int32).toNatClampNeg) = 0 ∨ (xs (3 : Int32).toNatClampNeg) = 1 ∨ (xs (3 : Int32).toNatClampNeg) = 2 ∨ (xs (3 : Int32).toNatClampNeg) = 3 by simp only [fa_eq, Int32.reduceToInt]; omega) with c_151 | c_151 | c_151 | c_151 | c_151
    · have hPc := hP.sub (ws' := [(hc_, .inr (11, [.ref (ad 0), .ref (ad 1), .ref (ad 2), .ref (ad 3), .ref (ad 4), .ref (ad 5), .ref (ad 6), .ref (ad 7), .ref (ad 8), .int 0, .int 0, .int 0, .int 0])), (ad 8, .inl (cd 8, 4, .inr (.inr (.inr (.inr (va_up (va_up (va_up (va_up (fun _ => none) 0 (some (sa 0))) 1 (some (sa 1))) 2 (some (sa 2))) 3 (some (sa 3))))))))]) [0, 1] rfl
      have hKc := hK.sub (tys' := [(cd 8, .object RX7)]) [0] rfl
      refine vp_callSi (va_Run.run (va_runV (As := [.int (xs (1 : Int32).toNatClampNeg), .int (xs (2 : Int32).toNatClampNeg), .int (xs (3 : Int32).toNatClampNeg), .int (xs (4 : Int32).toNatClampNeg), .int (xs (5 : Int32).toNatClampNeg)]) (rest := []) ⟨hx, hb, hml, hown, hts⟩ (rt_X11_copyIO l dC dI hc_ ad (cd 8) (va_up (va_up (va_up (va_up (fun _ => none) 0 (some (sa 0))) 1 (some (sa 1))) 2 (some (sa 2))) 3 (some (sa 3))) (sa 3) (xs (1 : Int32).toNatClampNeg) (xs (2 : Int32).toNatClampNeg) (xs (3 : Int32).toNatClampNeg) (xs (4 : Int32).toNatClampNeg) (xs (5 : Int32).toNatClampNeg) (by rw [c_6]; decide) (by rw [c_6]; rfl) c_151) (cwV 5 hts gL_law_X11_copy rfl rfl rfl (by decide +kernel) ⟨Nat.le_of_ble_eq_true rfl, Nat.le_of_ble_eq_true rfl⟩) ⟨fun a U g mk q => by obtain ⟨q0, qP, qK⟩ := q; exact ⟨q0, qP, va_K.moved (u := U) (U := U.calling g mk a) (Vm.Alike.refl U.vm) qK⟩, va_recv hKc hPc (ci := 11) (q0 := 0) rfl rfl, fun U hU hW => ⟨rfl, by rw [hU]; exact hPc, va_K.moved hW.alike hKc⟩⟩ rfl rfl hl.1 rfl (lv_room (Nat.le_of_ble_eq_true rfl)) dL_law_1704 ⟨by decide +kernel, by decide +kernel⟩)) (fun r_152 hr_152 => ?_)
      obtain rfl := hr_152
      refine lv_aload_n hx hb dL_law_1707 rfl (lv_at hl 1 rfl) ?_
      refine lv_aload_n hx hb dL_law_1708 rfl (lv_at hl 3 rfl) ?_
      refine lv_iload_n hx hb dL_law_1709 rfl (lv_at hl 0 rfl) ?_
      refine lv_iconst (v := 1) hx hb dL_law_1710 (by decide) ?_
      refine lv_iadd hx hb dL_law_1711 ?_
      refine lv_topi (fun y_153 ey_153 => ?_)
      obtain rfl : y_153 = 1 := ey_153.trans (by decide)
      refine va_sld hx hb hX hbl hbA hS (by rw [hL6]; unfold vp_in; decide) dL_law_1712 ?_
      refine lv_aload_n hx hb dL_law_1713 rfl (lv_at hl 3 rfl) ?_
      refine lv_iload_n hx hb dL_law_1714 rfl (lv_at hl 0 rfl) ?_
      refine lv_iconst (v := 2) hx hb dL_law_1715 (by decide) ?_
      refine lv_iadd hx hb dL_law_1716 ?_
      refine lv_topi (fun y_154 ey_154 => ?_)
      obtain rfl : y_154 = 2 := ey_154.trans (by decide)
      refine va_sld hx hb hX hbl hbA hS (by rw [hL6]; unfold vp_in; decide) dL_law_1717 ?_
      refine lv_aload_n hx hb dL_law_1718 rfl (lv_at hl 3 rfl) ?_
      refine lv_iload_n hx hb dL_law_1719 rfl (lv_at hl 0 rfl) ?_
      refine lv_iconst (v := 3) hx hb dL_law_1720 (by decide) ?_
      refine lv_iadd hx hb dL_law_1721 ?_
      refine lv_topi (fun y_155 ey_155 => ?_)
      obtain rfl : y_155 = 3 := ey_155.trans (by decide)
      refine va_sld hx hb hX hbl hbA hS (by rw [hL6]; unfold vp_in; decide) dL_law_1722 ?_
      refine lv_aload_n hx hb dL_law_1723 rfl (lv_at hl 3 rfl) ?_
      refine lv_iload_n hx hb dL_law_1724 rfl (lv_at hl 0 rfl) ?_
      refine lv_iconst (v := 4) hx hb dL_law_1725 (by decide) ?_
      refine lv_iadd hx hb dL_law_1726 ?_
      refine lv_topi (fun y_156 ey_156 => ?_)
      obtain rfl : y_156 = 4 := ey_156.trans (by decide)
      refine va_sld hx hb hX hbl hbA hS (by rw [hL6]; unfold vp_in; decide) dL_law_1727 ?_
      refine lv_aload_n hx hb dL_law_1728 rfl (lv_at hl 3 rfl) ?_
      refine lv_iload_n hx hb dL_law_1729 rfl (lv_at hl 0 rfl) ?_
      refine lv_iconst (v := 5) hx hb dL_law_1730 (by decide) ?_
      refine lv_iadd hx hb dL_law_1731 ?_
      refine lv_topi (fun y_157 ey_157 => ?_)
      obtain rfl : y_157 = 5 := ey_157.trans (by decide)
      refine va_sld hx hb hX hbl hbA hS (by rw [hL6]; unfold vp_in; decide) dL_law_1732 ?_
      have hPc := hP.sub (ws' := [(hm_, .inr (12, [.int 0, .int 0, .ref (am 2), .ref (am 3), .ref (am 4), .int 0, .ref (am 6), .ref (am 7), .ref (am 8), .int 0, .ref (am 10), .ref (am 11), .ref (am 12), .ref (am 13), .ref (am 14), .ref (am 15), .int 0, .ref (am 17), .ref (am 18), .ref (am 19), .ref (am 20), .int 0, .ref (am 22), .int 0, .ref (am 24), .ref (am 25), .ref (am 26), .ref (am 27), .ref (am 28), .ref (am 29), .int 0, .ref (am 31), .ref (am 32), .ref (am 33), .int 0, .ref (am 35), .int 0, .ref (am 37), .ref (am 38), .ref (am 39), .ref (am 40), .ref (am 41), .ref (am 42), .ref (am 43), .int 0, .ref (am 45), .ref (am 46), .ref (am 47), .int 0, .ref (am 49), .int 0, .ref (am 51), .int 0, .ref (am 53), .ref (am 54), .int 1, .int 0, .ref (am 57), .long 0, .ref (am 59), .ref (am 60), .long 0, .int 0, .int 0, .int 0, .int 0, .int 0, .int 0, .ref (am 68), .int 0, .int 0, .ref (am 71), .ref (am 72), .ref (am 73), .ref (am 74), .ref (am 75), .ref (am 76), .ref (am 77), .ref (am 78)])), (am 75, .inl (cs 75, 4, .inl fs))]) [6, 7] rfl
      have hKc := hK.sub (tys' := [(cs 75, .int)]) [1] rfl
      refine vp_callSi (va_Run.run (va_runV (As := [.int (xs (1 : Int32).toNatClampNeg), .int (xs (2 : Int32).toNatClampNeg), .int (xs (3 : Int32).toNatClampNeg), .int (xs (4 : Int32).toNatClampNeg), .int (xs (5 : Int32).toNatClampNeg)]) (rest := [.int (-2)]) ⟨hx, hb, hml, hown, hts⟩ (rt_X12_copy l dC dI hm_ am cs fs (xs (1 : Int32).toNatClampNeg) (xs (2 : Int32).toNatClampNeg) (xs (3 : Int32).toNatClampNeg) (xs (4 : Int32).toNatClampNeg) (xs (5 : Int32).toNatClampNeg) hsrt) (cwV 5 hts gL_law_X12_copy rfl rfl rfl (by decide +kernel) ⟨Nat.le_of_ble_eq_true rfl, Nat.le_of_ble_eq_true rfl⟩) ⟨fun a U g mk q => by obtain ⟨q0, qP, qK⟩ := q; exact ⟨q0, qP, va_K.moved (u := U) (U := U.calling g mk a) (Vm.Alike.refl U.vm) qK⟩, va_recv hKc hPc (ci := 12) (q0 := 0) rfl rfl, fun U hU hW => ⟨rfl, by rw [hU]; exact hPc, va_K.moved hW.alike hKc⟩⟩ rfl rfl hl.1 rfl (lv_room (Nat.le_of_ble_eq_true rfl)) dL_law_1733 ⟨by decide +kernel, by decide +kernel⟩)) (fun r_158 hr_158 => ?_)
      have hq : ((-2) : Int32) = r_158 := by
        rcases hr_158 with ⟨a1, e1⟩ | ⟨a1, e1⟩ <;> first | (rw [e1]; done) | (exfalso; (try simp only [fa_lt, fa_le, fa_eq, fa_lt64, fa_le64, fa_eq64, Int32.reduceToInt, Int64.reduceToInt, zi_ite] at c_6); (try simp only [fa_lt, fa_le, fa_eq, fa_lt64, fa_le64, fa_eq64, Int32.reduceToInt, Int64.reduceToInt, zi_ite] at c_151); (try simp only [fa_lt, fa_le, fa_eq, fa_lt64, fa_le64, fa_eq64, Int32.reduceToInt, Int64.reduceToInt, zi_ite] at a1); omega)
      refine lv_icmp_eq (tgt := 1837) hx hb dL_law_1736 (by decide) (fun _ => ?_) (fun c9 => absurd hq c9)
      exact law_fin C0 hL6 hS (by decide +kernel) (by decide +kernel) ls (lv_sub hl [3, 2, 1, 0] rfl)
    · have hPc := hP.sub (ws' := [(hc_, .inr (11, [.ref (ad 0), .ref (ad 1), .ref (ad 2), .ref (ad 3), .ref (ad 4), .ref (ad 5), .ref (ad 6), .ref (ad 7), .ref (ad 8), .int 0, .int 0, .int 0, .int 0])), (ad 8, .inl (cd 8, 4, .inr (.inr (.inr (.inr (va_up (va_up (va_up (va_up (fun _ => none) 0 (some (sa 0))) 1 (some (sa 1))) 2 (some (sa 2))) 3 (some (sa 3)))))))), (sa 3, .inr (7, [.ref ((fun _ => ai 3) 0), .int (-1), .int 0]))]) [0, 1, 5] rfl
      have hKc := hK.sub (tys' := [(cd 8, .object RX7)]) [0] rfl
      refine vp_callSi (va_Run.run (va_runV (As := [.int (xs (1 : Int32).toNatClampNeg), .int (xs (2 : Int32).toNatClampNeg), .int (xs (3 : Int32).toNatClampNeg), .int (xs (4 : Int32).toNatClampNeg), .int (xs (5 : Int32).toNatClampNeg)]) (rest := []) ⟨hx, hb, hml, hown, hts⟩ (rt_X11_copyII l dC dI hc_ ad (cd 8) (va_up (va_up (va_up (va_up (fun _ => none) 0 (some (sa 0))) 1 (some (sa 1))) 2 (some (sa 2))) 3 (some (sa 3))) (sa 3) (fun _ => ai 3) (sa 0) (xs (1 : Int32).toNatClampNeg) (xs (2 : Int32).toNatClampNeg) (xs (3 : Int32).toNatClampNeg) (xs (4 : Int32).toNatClampNeg) (xs (5 : Int32).toNatClampNeg) (by rw [c_6]; decide) (by rw [c_6]; rfl) (by rw [c_151]; decide) (by rw [c_151]; rfl)) (cwV 5 hts gL_law_X11_copy rfl rfl rfl (by decide +kernel) ⟨Nat.le_of_ble_eq_true rfl, Nat.le_of_ble_eq_true rfl⟩) ⟨fun a U g mk q => by obtain ⟨q0, qP, qK⟩ := q; exact ⟨q0, qP, va_K.moved (u := U) (U := U.calling g mk a) (Vm.Alike.refl U.vm) qK⟩, va_recv hKc hPc (ci := 11) (q0 := 0) rfl rfl, fun U hU hW => ⟨rfl, by rw [hU]; exact hPc, va_K.moved hW.alike hKc⟩⟩ rfl rfl hl.1 rfl (lv_room (Nat.le_of_ble_eq_true rfl)) dL_law_1704 ⟨by decide +kernel, by decide +kernel⟩)) (fun r_159 hr_159 => ?_)
      obtain rfl := hr_159
      refine lv_aload_n hx hb dL_law_1707 rfl (lv_at hl 1 rfl) ?_
      refine lv_aload_n hx hb dL_law_1708 rfl (lv_at hl 3 rfl) ?_
      refine lv_iload_n hx hb dL_law_1709 rfl (lv_at hl 0 rfl) ?_
      refine lv_iconst (v := 1) hx hb dL_law_1710 (by decide) ?_
      refine lv_iadd hx hb dL_law_1711 ?_
      refine lv_topi (fun y_160 ey_160 => ?_)
      obtain rfl : y_160 = 1 := ey_160.trans (by decide)
      refine va_sld hx hb hX hbl hbA hS (by rw [hL6]; unfold vp_in; decide) dL_law_1712 ?_
      refine lv_aload_n hx hb dL_law_1713 rfl (lv_at hl 3 rfl) ?_
      refine lv_iload_n hx hb dL_law_1714 rfl (lv_at hl 0 rfl) ?_
      refine lv_iconst (v := 2) hx hb dL_law_1715 (by decide) ?_
      refine lv_iadd hx hb dL_law_1716 ?_
      refine lv_topi (fun y_161 ey_161 => ?_)
      obtain rfl : y_161 = 2 := ey_161.trans (by decide)
      refine va_sld hx hb hX hbl hbA hS (by rw [hL6]; unfold vp_in; decide) dL_law_1717 ?_
      refine lv_aload_n hx hb dL_law_1718 rfl (lv_at hl 3 rfl) ?_
      refine lv_iload_n hx hb dL_law_1719 rfl (lv_at hl 0 rfl) ?_
      refine lv_iconst (v := 3) hx hb dL_law_1720 (by decide) ?_
      refine lv_iadd hx hb dL_law_1721 ?_
      refine lv_topi (fun y_162 ey_162 => ?_)
      obtain rfl : y_162 = 3 := ey_162.trans (by decide)
      refine va_sld hx hb hX hbl hbA hS (by rw [hL6]; unfold vp_in; decide) dL_law_1722 ?_
      refine lv_aload_n hx hb dL_law_1723 rfl (lv_at hl 3 rfl) ?_
      refine lv_iload_n hx hb dL_law_1724 rfl (lv_at hl 0 rfl) ?_
      refine lv_iconst (v := 4) hx hb dL_law_1725 (by decide) ?_
      refine lv_iadd hx hb dL_law_1726 ?_
      refine lv_topi (fun y_163 ey_163 => ?_)
      obtain rfl : y_163 = 4 := ey_163.trans (by decide)
      refine va_sld hx hb hX hbl hbA hS (by rw [hL6]; unfold vp_in; decide) dL_law_1727 ?_
      refine lv_aload_n hx hb dL_law_1728 rfl (lv_at hl 3 rfl) ?_
      refine lv_iload_n hx hb dL_law_1729 rfl (lv_at hl 0 rfl) ?_
      refine lv_iconst (v := 5) hx hb dL_law_1730 (by decide) ?_
      refine lv_iadd hx hb dL_law_1731 ?_
      refine lv_topi (fun y_164 ey_164 => ?_)
      obtain rfl : y_164 = 5 := ey_164.trans (by decide)
      refine va_sld hx hb hX hbl hbA hS (by rw [hL6]; unfold vp_in; decide) dL_law_1732 ?_
      have hPc := hP.sub (ws' := [(hm_, .inr (12, [.int 0, .int 0, .ref (am 2), .ref (am 3), .ref (am 4), .int 0, .ref (am 6), .ref (am 7), .ref (am 8), .int 0, .ref (am 10), .ref (am 11), .ref (am 12), .ref (am 13), .ref (am 14), .ref (am 15), .int 0, .ref (am 17), .ref (am 18), .ref (am 19), .ref (am 20), .int 0, .ref (am 22), .int 0, .ref (am 24), .ref (am 25), .ref (am 26), .ref (am 27), .ref (am 28), .ref (am 29), .int 0, .ref (am 31), .ref (am 32), .ref (am 33), .int 0, .ref (am 35), .int 0, .ref (am 37), .ref (am 38), .ref (am 39), .ref (am 40), .ref (am 41), .ref (am 42), .ref (am 43), .int 0, .ref (am 45), .ref (am 46), .ref (am 47), .int 0, .ref (am 49), .int 0, .ref (am 51), .int 0, .ref (am 53), .ref (am 54), .int 1, .int 0, .ref (am 57), .long 0, .ref (am 59), .ref (am 60), .long 0, .int 0, .int 0, .int 0, .int 0, .int 0, .int 0, .ref (am 68), .int 0, .int 0, .ref (am 71), .ref (am 72), .ref (am 73), .ref (am 74), .ref (am 75), .ref (am 76), .ref (am 77), .ref (am 78)])), (am 75, .inl (cs 75, 4, .inl fs))]) [6, 7] rfl
      have hKc := hK.sub (tys' := [(cs 75, .int)]) [1] rfl
      refine vp_callSi (va_Run.run (va_runV (As := [.int (xs (1 : Int32).toNatClampNeg), .int (xs (2 : Int32).toNatClampNeg), .int (xs (3 : Int32).toNatClampNeg), .int (xs (4 : Int32).toNatClampNeg), .int (xs (5 : Int32).toNatClampNeg)]) (rest := [.int (-11)]) ⟨hx, hb, hml, hown, hts⟩ (rt_X12_copy l dC dI hm_ am cs fs (xs (1 : Int32).toNatClampNeg) (xs (2 : Int32).toNatClampNeg) (xs (3 : Int32).toNatClampNeg) (xs (4 : Int32).toNatClampNeg) (xs (5 : Int32).toNatClampNeg) hsrt) (cwV 5 hts gL_law_X12_copy rfl rfl rfl (by decide +kernel) ⟨Nat.le_of_ble_eq_true rfl, Nat.le_of_ble_eq_true rfl⟩) ⟨fun a U g mk q => by obtain ⟨q0, qP, qK⟩ := q; exact ⟨q0, qP, va_K.moved (u := U) (U := U.calling g mk a) (Vm.Alike.refl U.vm) qK⟩, va_recv hKc hPc (ci := 12) (q0 := 0) rfl rfl, fun U hU hW => ⟨rfl, by rw [hU]; exact hPc, va_K.moved hW.alike hKc⟩⟩ rfl rfl hl.1 rfl (lv_room (Nat.le_of_ble_eq_true rfl)) dL_law_1733 ⟨by decide +kernel, by decide +kernel⟩)) (fun r_165 hr_165 => ?_)
      have hq : ((-11) : Int32) = r_165 := by
        rcases hr_165 with ⟨a1, e1⟩ | ⟨a1, e1⟩ <;> first | (rw [e1]; done) | (exfalso; (try simp only [fa_lt, fa_le, fa_eq, fa_lt64, fa_le64, fa_eq64, Int32.reduceToInt, Int64.reduceToInt, zi_ite] at c_6); (try simp only [fa_lt, fa_le, fa_eq, fa_lt64, fa_le64, fa_eq64, Int32.reduceToInt, Int64.reduceToInt, zi_ite] at c_151); (try simp only [fa_lt, fa_le, fa_eq, fa_lt64, fa_le64, fa_eq64, Int32.reduceToInt, Int64.reduceToInt, zi_ite] at a1); omega)
      refine lv_icmp_eq (tgt := 1837) hx hb dL_law_1736 (by decide) (fun _ => ?_) (fun c9 => absurd hq c9)
      exact law_fin C0 hL6 hS (by decide +kernel) (by decide +kernel) ls (lv_sub hl [3, 2, 1, 0] rfl)
    · have hPc := hP.sub (ws' := [(hc_, .inr (11, [.ref (ad 0), .ref (ad 1), .ref (ad 2), .ref (ad 3), .ref (ad 4), .ref (ad 5), .ref (ad 6), .ref (ad 7), .ref (ad 8), .int 0, .int 0, .int 0, .int 0])), (ad 8, .inl (cd 8, 4, .inr (.inr (.inr (.inr (va_up (va_up (va_up (va_up (fun _ => none) 0 (some (sa 0))) 1 (some (sa 1))) 2 (some (sa 2))) 3 (some (sa 3)))))))), (sa 3, .inr (7, [.ref ((fun _ => ai 3) 0), .int (-1), .int 0]))]) [0, 1, 5] rfl
      have hKc := hK.sub (tys' := [(cd 8, .object RX7)]) [0] rfl
      refine vp_callSi (va_Run.run (va_runV (As := [.int (xs (1 : Int32).toNatClampNeg), .int (xs (2 : Int32).toNatClampNeg), .int (xs (3 : Int32).toNatClampNeg), .int (xs (4 : Int32).toNatClampNeg), .int (xs (5 : Int32).toNatClampNeg)]) (rest := []) ⟨hx, hb, hml, hown, hts⟩ (rt_X11_copyII l dC dI hc_ ad (cd 8) (va_up (va_up (va_up (va_up (fun _ => none) 0 (some (sa 0))) 1 (some (sa 1))) 2 (some (sa 2))) 3 (some (sa 3))) (sa 3) (fun _ => ai 3) (sa 1) (xs (1 : Int32).toNatClampNeg) (xs (2 : Int32).toNatClampNeg) (xs (3 : Int32).toNatClampNeg) (xs (4 : Int32).toNatClampNeg) (xs (5 : Int32).toNatClampNeg) (by rw [c_6]; decide) (by rw [c_6]; rfl) (by rw [c_151]; decide) (by rw [c_151]; rfl)) (cwV 5 hts gL_law_X11_copy rfl rfl rfl (by decide +kernel) ⟨Nat.le_of_ble_eq_true rfl, Nat.le_of_ble_eq_true rfl⟩) ⟨fun a U g mk q => by obtain ⟨q0, qP, qK⟩ := q; exact ⟨q0, qP, va_K.moved (u := U) (U := U.calling g mk a) (Vm.Alike.refl U.vm) qK⟩, va_recv hKc hPc (ci := 11) (q0 := 0) rfl rfl, fun U hU hW => ⟨rfl, by rw [hU]; exact hPc, va_K.moved hW.alike hKc⟩⟩ rfl rfl hl.1 rfl (lv_room (Nat.le_of_ble_eq_true rfl)) dL_law_1704 ⟨by decide +kernel, by decide +kernel⟩)) (fun r_166 hr_166 => ?_)
      obtain rfl := hr_166
      refine lv_aload_n hx hb dL_law_1707 rfl (lv_at hl 1 rfl) ?_
      refine lv_aload_n hx hb dL_law_1708 rfl (lv_at hl 3 rfl) ?_
      refine lv_iload_n hx hb dL_law_1709 rfl (lv_at hl 0 rfl) ?_
      refine lv_iconst (v := 1) hx hb dL_law_1710 (by decide) ?_
      refine lv_iadd hx hb dL_law_1711 ?_
      refine lv_topi (fun y_167 ey_167 => ?_)
      obtain rfl : y_167 = 1 := ey_167.trans (by decide)
      refine va_sld hx hb hX hbl hbA hS (by rw [hL6]; unfold vp_in; decide) dL_law_1712 ?_
      refine lv_aload_n hx hb dL_law_1713 rfl (lv_at hl 3 rfl) ?_
      refine lv_iload_n hx hb dL_law_1714 rfl (lv_at hl 0 rfl) ?_
      refine lv_iconst (v := 2) hx hb dL_law_1715 (by decide) ?_
      refine lv_iadd hx hb dL_law_1716 ?_
      refine lv_topi (fun y_168 ey_168 => ?_)
      obtain rfl : y_168 = 2 := ey_168.trans (by decide)
      refine va_sld hx hb hX hbl hbA hS (by rw [hL6]; unfold vp_in; decide) dL_law_1717 ?_
      refine lv_aload_n hx hb dL_law_1718 rfl (lv_at hl 3 rfl) ?_
      refine lv_iload_n hx hb dL_law_1719 rfl (lv_at hl 0 rfl) ?_
      refine lv_iconst (v := 3) hx hb dL_law_1720 (by decide) ?_
      refine lv_iadd hx hb dL_law_1721 ?_
      refine lv_topi (fun y_169 ey_169 => ?_)
      obtain rfl : y_169 = 3 := ey_169.trans (by decide)
      refine va_sld hx hb hX hbl hbA hS (by rw [hL6]; unfold vp_in; decide) dL_law_1722 ?_
      refine lv_aload_n hx hb dL_law_1723 rfl (lv_at hl 3 rfl) ?_
      refine lv_iload_n hx hb dL_law_1724 rfl (lv_at hl 0 rfl) ?_
      refine lv_iconst (v := 4) hx hb dL_law_1725 (by decide) ?_
      refine lv_iadd hx hb dL_law_1726 ?_
      refine lv_topi (fun y_170 ey_170 => ?_)
      obtain rfl : y_170 = 4 := ey_170.trans (by decide)
      refine va_sld hx hb hX hbl hbA hS (by rw [hL6]; unfold vp_in; decide) dL_law_1727 ?_
      refine lv_aload_n hx hb dL_law_1728 rfl (lv_at hl 3 rfl) ?_
      refine lv_iload_n hx hb dL_law_1729 rfl (lv_at hl 0 rfl) ?_
      refine lv_iconst (v := 5) hx hb dL_law_1730 (by decide) ?_
      refine lv_iadd hx hb dL_law_1731 ?_
      refine lv_topi (fun y_171 ey_171 => ?_)
      obtain rfl : y_171 = 5 := ey_171.trans (by decide)
      refine va_sld hx hb hX hbl hbA hS (by rw [hL6]; unfold vp_in; decide) dL_law_1732 ?_
      have hPc := hP.sub (ws' := [(hm_, .inr (12, [.int 0, .int 0, .ref (am 2), .ref (am 3), .ref (am 4), .int 0, .ref (am 6), .ref (am 7), .ref (am 8), .int 0, .ref (am 10), .ref (am 11), .ref (am 12), .ref (am 13), .ref (am 14), .ref (am 15), .int 0, .ref (am 17), .ref (am 18), .ref (am 19), .ref (am 20), .int 0, .ref (am 22), .int 0, .ref (am 24), .ref (am 25), .ref (am 26), .ref (am 27), .ref (am 28), .ref (am 29), .int 0, .ref (am 31), .ref (am 32), .ref (am 33), .int 0, .ref (am 35), .int 0, .ref (am 37), .ref (am 38), .ref (am 39), .ref (am 40), .ref (am 41), .ref (am 42), .ref (am 43), .int 0, .ref (am 45), .ref (am 46), .ref (am 47), .int 0, .ref (am 49), .int 0, .ref (am 51), .int 0, .ref (am 53), .ref (am 54), .int 1, .int 0, .ref (am 57), .long 0, .ref (am 59), .ref (am 60), .long 0, .int 0, .int 0, .int 0, .int 0, .int 0, .int 0, .ref (am 68), .int 0, .int 0, .ref (am 71), .ref (am 72), .ref (am 73), .ref (am 74), .ref (am 75), .ref (am 76), .ref (am 77), .ref (am 78)])), (am 75, .inl (cs 75, 4, .inl fs))]) [6, 7] rfl
      have hKc := hK.sub (tys' := [(cs 75, .int)]) [1] rfl
      refine vp_callSi (va_Run.run (va_runV (As := [.int (xs (1 : Int32).toNatClampNeg), .int (xs (2 : Int32).toNatClampNeg), .int (xs (3 : Int32).toNatClampNeg), .int (xs (4 : Int32).toNatClampNeg), .int (xs (5 : Int32).toNatClampNeg)]) (rest := [.int (-11)]) ⟨hx, hb, hml, hown, hts⟩ (rt_X12_copy l dC dI hm_ am cs fs (xs (1 : Int32).toNatClampNeg) (xs (2 : Int32).toNatClampNeg) (xs (3 : Int32).toNatClampNeg) (xs (4 : Int32).toNatClampNeg) (xs (5 : Int32).toNatClampNeg) hsrt) (cwV 5 hts gL_law_X12_copy rfl rfl rfl (by decide +kernel) ⟨Nat.le_of_ble_eq_true rfl, Nat.le_of_ble_eq_true rfl⟩) ⟨fun a U g mk q => by obtain ⟨q0, qP, qK⟩ := q; exact ⟨q0, qP, va_K.moved (u := U) (U := U.calling g mk a) (Vm.Alike.refl U.vm) qK⟩, va_recv hKc hPc (ci := 12) (q0 := 0) rfl rfl, fun U hU hW => ⟨rfl, by rw [hU]; exact hPc, va_K.moved hW.alike hKc⟩⟩ rfl rfl hl.1 rfl (lv_room (Nat.le_of_ble_eq_true rfl)) dL_law_1733 ⟨by decide +kernel, by decide +kernel⟩)) (fun r_172 hr_172 => ?_)
      have hq : ((-11) : Int32) = r_172 := by
        rcases hr_172 with ⟨a1, e1⟩ | ⟨a1, e1⟩ <;> first | (rw [e1]; done) | (exfalso; (try simp only [fa_lt, fa_le, fa_eq, fa_lt64, fa_le64, fa_eq64, Int32.reduceToInt, Int64.reduceToInt, zi_ite] at c_6); (try simp only [fa_lt, fa_le, fa_eq, fa_lt64, fa_le64, fa_eq64, Int32.reduceToInt, Int64.reduceToInt, zi_ite] at c_151); (try simp only [fa_lt, fa_le, fa_eq, fa_lt64, fa_le64, fa_eq64, Int32.reduceToInt, Int64.reduceToInt, zi_ite] at a1); omega)
      refine lv_icmp_eq (tgt := 1837) hx hb dL_law_1736 (by decide) (fun _ => ?_) (fun c9 => absurd hq c9)
      exact law_fin C0 hL6 hS (by decide +kernel) (by decide +kernel) ls (lv_sub hl [3, 2, 1, 0] rfl)
    · have hPc := hP.sub (ws' := [(hc_, .inr (11, [.ref (ad 0), .ref (ad 1), .ref (ad 2), .ref (ad 3), .ref (ad 4), .ref (ad 5), .ref (ad 6), .ref (ad 7), .ref (ad 8), .int 0, .int 0, .int 0, .int 0])), (ad 8, .inl (cd 8, 4, .inr (.inr (.inr (.inr (va_up (va_up (va_up (va_up (fun _ => none) 0 (some (sa 0))) 1 (some (sa 1))) 2 (some (sa 2))) 3 (some (sa 3)))))))), (sa 3, .inr (7, [.ref ((fun _ => ai 3) 0), .int (-1), .int 0]))]) [0, 1, 5] rfl
      have hKc := hK.sub (tys' := [(cd 8, .object RX7)]) [0] rfl
      refine vp_callSi (va_Run.run (va_runV (As := [.int (xs (1 : Int32).toNatClampNeg), .int (xs (2 : Int32).toNatClampNeg), .int (xs (3 : Int32).toNatClampNeg), .int (xs (4 : Int32).toNatClampNeg), .int (xs (5 : Int32).toNatClampNeg)]) (rest := []) ⟨hx, hb, hml, hown, hts⟩ (rt_X11_copyII l dC dI hc_ ad (cd 8) (va_up (va_up (va_up (va_up (fun _ => none) 0 (some (sa 0))) 1 (some (sa 1))) 2 (some (sa 2))) 3 (some (sa 3))) (sa 3) (fun _ => ai 3) (sa 2) (xs (1 : Int32).toNatClampNeg) (xs (2 : Int32).toNatClampNeg) (xs (3 : Int32).toNatClampNeg) (xs (4 : Int32).toNatClampNeg) (xs (5 : Int32).toNatClampNeg) (by rw [c_6]; decide) (by rw [c_6]; rfl) (by rw [c_151]; decide) (by rw [c_151]; rfl)) (cwV 5 hts gL_law_X11_copy rfl rfl rfl (by decide +kernel) ⟨Nat.le_of_ble_eq_true rfl, Nat.le_of_ble_eq_true rfl⟩) ⟨fun a U g mk q => by obtain ⟨q0, qP, qK⟩ := q; exact ⟨q0, qP, va_K.moved (u := U) (U := U.calling g mk a) (Vm.Alike.refl U.vm) qK⟩, va_recv hKc hPc (ci := 11) (q0 := 0) rfl rfl, fun U hU hW => ⟨rfl, by rw [hU]; exact hPc, va_K.moved hW.alike hKc⟩⟩ rfl rfl hl.1 rfl (lv_room (Nat.le_of_ble_eq_true rfl)) dL_law_1704 ⟨by decide +kernel, by decide +kernel⟩)) (fun r_173 hr_173 => ?_)
      obtain rfl := hr_173
      refine lv_aload_n hx hb dL_law_1707 rfl (lv_at hl 1 rfl) ?_
      refine lv_aload_n hx hb dL_law_1708 rfl (lv_at hl 3 rfl) ?_
      refine lv_iload_n hx hb dL_law_1709 rfl (lv_at hl 0 rfl) ?_
      refine lv_iconst (v := 1) hx hb dL_law_1710 (by decide) ?_
      refine lv_iadd hx hb dL_law_1711 ?_
      refine lv_topi (fun y_174 ey_174 => ?_)
      obtain rfl : y_174 = 1 := ey_174.trans (by decide)
      refine va_sld hx hb hX hbl hbA hS (by rw [hL6]; unfold vp_in; decide) dL_law_1712 ?_
      refine lv_aload_n hx hb dL_law_1713 rfl (lv_at hl 3 rfl) ?_
      refine lv_iload_n hx hb dL_law_1714 rfl (lv_at hl 0 rfl) ?_
      refine lv_iconst (v := 2) hx hb dL_law_1715 (by decide) ?_
      refine lv_iadd hx hb dL_law_1716 ?_
      refine lv_topi (fun y_175 ey_175 => ?_)
      obtain rfl : y_175 = 2 := ey_175.trans (by decide)
      refine va_sld hx hb hX hbl hbA hS (by rw [hL6]; unfold vp_in; decide) dL_law_1717 ?_
      refine lv_aload_n hx hb dL_law_1718 rfl (lv_at hl 3 rfl) ?_
      refine lv_iload_n hx hb dL_law_1719 rfl (lv_at hl 0 rfl) ?_
      refine lv_iconst (v := 3) hx hb dL_law_1720 (by decide) ?_
      refine lv_iadd hx hb dL_law_1721 ?_
      refine lv_topi (fun y_176 ey_176 => ?_)
      obtain rfl : y_176 = 3 := ey_176.trans (by decide)
      refine va_sld hx hb hX hbl hbA hS (by rw [hL6]; unfold vp_in; decide) dL_law_1722 ?_
      refine lv_aload_n hx hb dL_law_1723 rfl (lv_at hl 3 rfl) ?_
      refine lv_iload_n hx hb dL_law_1724 rfl (lv_at hl 0 rfl) ?_
      refine lv_iconst (v := 4) hx hb dL_law_1725 (by decide) ?_
      refine lv_iadd hx hb dL_law_1726 ?_
      refine lv_topi (fun y_177 ey_177 => ?_)
      obtain rfl : y_177 = 4 := ey_177.trans (by decide)
      refine va_sld hx hb hX hbl hbA hS (by rw [hL6]; unfold vp_in; decide) dL_law_1727 ?_
      refine lv_aload_n hx hb dL_law_1728 rfl (lv_at hl 3 rfl) ?_
      refine lv_iload_n hx hb dL_law_1729 rfl (lv_at hl 0 rfl) ?_
      refine lv_iconst (v := 5) hx hb dL_law_1730 (by decide) ?_
      refine lv_iadd hx hb dL_law_1731 ?_
      refine lv_topi (fun y_178 ey_178 => ?_)
      obtain rfl : y_178 = 5 := ey_178.trans (by decide)
      refine va_sld hx hb hX hbl hbA hS (by rw [hL6]; unfold vp_in; decide) dL_law_1732 ?_
      have hPc := hP.sub (ws' := [(hm_, .inr (12, [.int 0, .int 0, .ref (am 2), .ref (am 3), .ref (am 4), .int 0, .ref (am 6), .ref (am 7), .ref (am 8), .int 0, .ref (am 10), .ref (am 11), .ref (am 12), .ref (am 13), .ref (am 14), .ref (am 15), .int 0, .ref (am 17), .ref (am 18), .ref (am 19), .ref (am 20), .int 0, .ref (am 22), .int 0, .ref (am 24), .ref (am 25), .ref (am 26), .ref (am 27), .ref (am 28), .ref (am 29), .int 0, .ref (am 31), .ref (am 32), .ref (am 33), .int 0, .ref (am 35), .int 0, .ref (am 37), .ref (am 38), .ref (am 39), .ref (am 40), .ref (am 41), .ref (am 42), .ref (am 43), .int 0, .ref (am 45), .ref (am 46), .ref (am 47), .int 0, .ref (am 49), .int 0, .ref (am 51), .int 0, .ref (am 53), .ref (am 54), .int 1, .int 0, .ref (am 57), .long 0, .ref (am 59), .ref (am 60), .long 0, .int 0, .int 0, .int 0, .int 0, .int 0, .int 0, .ref (am 68), .int 0, .int 0, .ref (am 71), .ref (am 72), .ref (am 73), .ref (am 74), .ref (am 75), .ref (am 76), .ref (am 77), .ref (am 78)])), (am 75, .inl (cs 75, 4, .inl fs))]) [6, 7] rfl
      have hKc := hK.sub (tys' := [(cs 75, .int)]) [1] rfl
      refine vp_callSi (va_Run.run (va_runV (As := [.int (xs (1 : Int32).toNatClampNeg), .int (xs (2 : Int32).toNatClampNeg), .int (xs (3 : Int32).toNatClampNeg), .int (xs (4 : Int32).toNatClampNeg), .int (xs (5 : Int32).toNatClampNeg)]) (rest := [.int (-11)]) ⟨hx, hb, hml, hown, hts⟩ (rt_X12_copy l dC dI hm_ am cs fs (xs (1 : Int32).toNatClampNeg) (xs (2 : Int32).toNatClampNeg) (xs (3 : Int32).toNatClampNeg) (xs (4 : Int32).toNatClampNeg) (xs (5 : Int32).toNatClampNeg) hsrt) (cwV 5 hts gL_law_X12_copy rfl rfl rfl (by decide +kernel) ⟨Nat.le_of_ble_eq_true rfl, Nat.le_of_ble_eq_true rfl⟩) ⟨fun a U g mk q => by obtain ⟨q0, qP, qK⟩ := q; exact ⟨q0, qP, va_K.moved (u := U) (U := U.calling g mk a) (Vm.Alike.refl U.vm) qK⟩, va_recv hKc hPc (ci := 12) (q0 := 0) rfl rfl, fun U hU hW => ⟨rfl, by rw [hU]; exact hPc, va_K.moved hW.alike hKc⟩⟩ rfl rfl hl.1 rfl (lv_room (Nat.le_of_ble_eq_true rfl)) dL_law_1733 ⟨by decide +kernel, by decide +kernel⟩)) (fun r_179 hr_179 => ?_)
      have hq : ((-11) : Int32) = r_179 := by
        rcases hr_179 with ⟨a1, e1⟩ | ⟨a1, e1⟩ <;> first | (rw [e1]; done) | (exfalso; (try simp only [fa_lt, fa_le, fa_eq, fa_lt64, fa_le64, fa_eq64, Int32.reduceToInt, Int64.reduceToInt, zi_ite] at c_6); (try simp only [fa_lt, fa_le, fa_eq, fa_lt64, fa_le64, fa_eq64, Int32.reduceToInt, Int64.reduceToInt, zi_ite] at c_151); (try simp only [fa_lt, fa_le, fa_eq, fa_lt64, fa_le64, fa_eq64, Int32.reduceToInt, Int64.reduceToInt, zi_ite] at a1); omega)
      refine lv_icmp_eq (tgt := 1837) hx hb dL_law_1736 (by decide) (fun _ => ?_) (fun c9 => absurd hq c9)
      exact law_fin C0 hL6 hS (by decide +kernel) (by decide +kernel) ls (lv_sub hl [3, 2, 1, 0] rfl)
    · have hPc := hP.sub (ws' := [(hc_, .inr (11, [.ref (ad 0), .ref (ad 1), .ref (ad 2), .ref (ad 3), .ref (ad 4), .ref (ad 5), .ref (ad 6), .ref (ad 7), .ref (ad 8), .int 0, .int 0, .int 0, .int 0])), (ad 8, .inl (cd 8, 4, .inr (.inr (.inr (.inr (va_up (va_up (va_up (va_up (fun _ => none) 0 (some (sa 0))) 1 (some (sa 1))) 2 (some (sa 2))) 3 (some (sa 3)))))))), (sa 3, .inr (7, [.ref ((fun _ => ai 3) 0), .int (-1), .int 0]))]) [0, 1, 5] rfl
      have hKc := hK.sub (tys' := [(cd 8, .object RX7)]) [0] rfl
      refine vp_callSi (va_Run.run (va_runV (As := [.int (xs (1 : Int32).toNatClampNeg), .int (xs (2 : Int32).toNatClampNeg), .int (xs (3 : Int32).toNatClampNeg), .int (xs (4 : Int32).toNatClampNeg), .int (xs (5 : Int32).toNatClampNeg)]) (rest := []) ⟨hx, hb, hml, hown, hts⟩ (rt_X11_copyII l dC dI hc_ ad (cd 8) (va_up (va_up (va_up (va_up (fun _ => none) 0 (some (sa 0))) 1 (some (sa 1))) 2 (some (sa 2))) 3 (some (sa 3))) (sa 3) (fun _ => ai 3) (sa 3) (xs (1 : Int32).toNatClampNeg) (xs (2 : Int32).toNatClampNeg) (xs (3 : Int32).toNatClampNeg) (xs (4 : Int32).toNatClampNeg) (xs (5 : Int32).toNatClampNeg) (by rw [c_6]; decide) (by rw [c_6]; rfl) (by rw [c_151]; decide) (by rw [c_151]; rfl)) (cwV 5 hts gL_law_X11_copy rfl rfl rfl (by decide +kernel) ⟨Nat.le_of_ble_eq_true rfl, Nat.le_of_ble_eq_true rfl⟩) ⟨fun a U g mk q => by obtain ⟨q0, qP, qK⟩ := q; exact ⟨q0, qP, va_K.moved (u := U) (U := U.calling g mk a) (Vm.Alike.refl U.vm) qK⟩, va_recv hKc hPc (ci := 11) (q0 := 0) rfl rfl, fun U hU hW => ⟨rfl, by rw [hU]; exact hPc, va_K.moved hW.alike hKc⟩⟩ rfl rfl hl.1 rfl (lv_room (Nat.le_of_ble_eq_true rfl)) dL_law_1704 ⟨by decide +kernel, by decide +kernel⟩)) (fun r_180 hr_180 => ?_)
      obtain rfl := hr_180
      refine lv_aload_n hx hb dL_law_1707 rfl (lv_at hl 1 rfl) ?_
      refine lv_aload_n hx hb dL_law_1708 rfl (lv_at hl 3 rfl) ?_
      refine lv_iload_n hx hb dL_law_1709 rfl (lv_at hl 0 rfl) ?_
      refine lv_iconst (v := 1) hx hb dL_law_1710 (by decide) ?_
      refine lv_iadd hx hb dL_law_1711 ?_
      refine lv_topi (fun y_181 ey_181 => ?_)
      obtain rfl : y_181 = 1 := ey_181.trans (by decide)
      refine va_sld hx hb hX hbl hbA hS (by rw [hL6]; unfold vp_in; decide) dL_law_1712 ?_
      refine lv_aload_n hx hb dL_law_1713 rfl (lv_at hl 3 rfl) ?_
      refine lv_iload_n hx hb dL_law_1714 rfl (lv_at hl 0 rfl) ?_
      refine lv_iconst (v := 2) hx hb dL_law_1715 (by decide) ?_
      refine lv_iadd hx hb dL_law_1716 ?_
      refine lv_topi (fun y_182 ey_182 => ?_)
      obtain rfl : y_182 = 2 := ey_182.trans (by decide)
      refine va_sld hx hb hX hbl hbA hS (by rw [hL6]; unfold vp_in; decide) dL_law_1717 ?_
      refine lv_aload_n hx hb dL_law_1718 rfl (lv_at hl 3 rfl) ?_
      refine lv_iload_n hx hb dL_law_1719 rfl (lv_at hl 0 rfl) ?_
      refine lv_iconst (v := 3) hx hb dL_law_1720 (by decide) ?_
      refine lv_iadd hx hb dL_law_1721 ?_
      refine lv_topi (fun y_183 ey_183 => ?_)
      obtain rfl : y_183 = 3 := ey_183.trans (by decide)
      refine va_sld hx hb hX hbl hbA hS (by rw [hL6]; unfold vp_in; decide) dL_law_1722 ?_
      refine lv_aload_n hx hb dL_law_1723 rfl (lv_at hl 3 rfl) ?_
      refine lv_iload_n hx hb dL_law_1724 rfl (lv_at hl 0 rfl) ?_
      refine lv_iconst (v := 4) hx hb dL_law_1725 (by decide) ?_
      refine lv_iadd hx hb dL_law_1726 ?_
      refine lv_topi (fun y_184 ey_184 => ?_)
      obtain rfl : y_184 = 4 := ey_184.trans (by decide)
      refine va_sld hx hb hX hbl hbA hS (by rw [hL6]; unfold vp_in; decide) dL_law_1727 ?_
      refine lv_aload_n hx hb dL_law_1728 rfl (lv_at hl 3 rfl) ?_
      refine lv_iload_n hx hb dL_law_1729 rfl (lv_at hl 0 rfl) ?_
      refine lv_iconst (v := 5) hx hb dL_law_1730 (by decide) ?_
      refine lv_iadd hx hb dL_law_1731 ?_
      refine lv_topi (fun y_185 ey_185 => ?_)
      obtain rfl : y_185 = 5 := ey_185.trans (by decide)
      refine va_sld hx hb hX hbl hbA hS (by rw [hL6]; unfold vp_in; decide) dL_law_1732 ?_
      have hPc := hP.sub (ws' := [(hm_, .inr (12, [.int 0, .int 0, .ref (am 2), .ref (am 3), .ref (am 4), .int 0, .ref (am 6), .ref (am 7), .ref (am 8), .int 0, .ref (am 10), .ref (am 11), .ref (am 12), .ref (am 13), .ref (am 14), .ref (am 15), .int 0, .ref (am 17), .ref (am 18), .ref (am 19), .ref (am 20), .int 0, .ref (am 22), .int 0, .ref (am 24), .ref (am 25), .ref (am 26), .ref (am 27), .ref (am 28), .ref (am 29), .int 0, .ref (am 31), .ref (am 32), .ref (am 33), .int 0, .ref (am 35), .int 0, .ref (am 37), .ref (am 38), .ref (am 39), .ref (am 40), .ref (am 41), .ref (am 42), .ref (am 43), .int 0, .ref (am 45), .ref (am 46), .ref (am 47), .int 0, .ref (am 49), .int 0, .ref (am 51), .int 0, .ref (am 53), .ref (am 54), .int 1, .int 0, .ref (am 57), .long 0, .ref (am 59), .ref (am 60), .long 0, .int 0, .int 0, .int 0, .int 0, .int 0, .int 0, .ref (am 68), .int 0, .int 0, .ref (am 71), .ref (am 72), .ref (am 73), .ref (am 74), .ref (am 75), .ref (am 76), .ref (am 77), .ref (am 78)])), (am 75, .inl (cs 75, 4, .inl fs))]) [6, 7] rfl
      have hKc := hK.sub (tys' := [(cs 75, .int)]) [1] rfl
      refine vp_callSi (va_Run.run (va_runV (As := [.int (xs (1 : Int32).toNatClampNeg), .int (xs (2 : Int32).toNatClampNeg), .int (xs (3 : Int32).toNatClampNeg), .int (xs (4 : Int32).toNatClampNeg), .int (xs (5 : Int32).toNatClampNeg)]) (rest := [.int (-11)]) ⟨hx, hb, hml, hown, hts⟩ (rt_X12_copy l dC dI hm_ am cs fs (xs (1 : Int32).toNatClampNeg) (xs (2 : Int32).toNatClampNeg) (xs (3 : Int32).toNatClampNeg) (xs (4 : Int32).toNatClampNeg) (xs (5 : Int32).toNatClampNeg) hsrt) (cwV 5 hts gL_law_X12_copy rfl rfl rfl (by decide +kernel) ⟨Nat.le_of_ble_eq_true rfl, Nat.le_of_ble_eq_true rfl⟩) ⟨fun a U g mk q => by obtain ⟨q0, qP, qK⟩ := q; exact ⟨q0, qP, va_K.moved (u := U) (U := U.calling g mk a) (Vm.Alike.refl U.vm) qK⟩, va_recv hKc hPc (ci := 12) (q0 := 0) rfl rfl, fun U hU hW => ⟨rfl, by rw [hU]; exact hPc, va_K.moved hW.alike hKc⟩⟩ rfl rfl hl.1 rfl (lv_room (Nat.le_of_ble_eq_true rfl)) dL_law_1733 ⟨by decide +kernel, by decide +kernel⟩)) (fun r_186 hr_186 => ?_)
      have hq : ((-11) : Int32) = r_186 := by
        rcases hr_186 with ⟨a1, e1⟩ | ⟨a1, e1⟩ <;> first | (rw [e1]; done) | (exfalso; (try simp only [fa_lt, fa_le, fa_eq, fa_lt64, fa_le64, fa_eq64, Int32.reduceToInt, Int64.reduceToInt, zi_ite] at c_6); (try simp only [fa_lt, fa_le, fa_eq, fa_lt64, fa_le64, fa_eq64, Int32.reduceToInt, Int64.reduceToInt, zi_ite] at c_151); (try simp only [fa_lt, fa_le, fa_eq, fa_lt64, fa_le64, fa_eq64, Int32.reduceToInt, Int64.reduceToInt, zi_ite] at a1); omega)
      refine lv_icmp_eq (tgt := 1837) hx hb dL_law_1736 (by decide) (fun _ => ?_) (fun c9 => absurd hq c9)
      exact law_fin C0 hL6 hS (by decide +kernel) (by decide +kernel) ls (lv_sub hl [3, 2, 1, 0] rfl)
set_option maxHeartbeats 1000000 in
set_option maxRecDepth 100000 in
theorem law_b36 {p : Program} {l : Launch} {e : Env} {s : State} {m : MethodId} {below : List Frame} {meth : Method} {c : Code} {dC : Nat → ClassId} {dI : Nat → Nat → Nat} {b L : Nat} {xs : Nat → Int32} (C0 : lw_At p s m meth c b L xs) (hL6 : L = 6) {hc_ hm_ : Nat} {ad sa am : Nat → Nat} {cd : Nat → ClassId} {H : Heap} {locs : List Loc} (hK : va_K (dC, dI) vwCl [(cd 8, .object RX7)] s) (hP : va_P (dC, dI) vwCl [(hc_, .inr (11, [.ref (ad 0), .ref (ad 1), .ref (ad 2), .ref (ad 3), .ref (ad 4), .ref (ad 5), .ref (ad 6), .ref (ad 7), .ref (ad 8), .int 0, .int 0, .int 0, .int 0])), (ad 8, .inl (cd 8, 4, .inr (.inr (.inr (.inr (va_up (va_up (va_up (va_up (fun _ => none) 0 (some (sa 0))) 1 (some (sa 1))) 2 (some (sa 2))) 3 (some (sa 3)))))))), (hm_, .inr (12, [.int 0, .int 0, .ref (am 2), .ref (am 3), .ref (am 4), .int 0, .ref (am 6), .ref (am 7), .ref (am 8), .int 0, .ref (am 10), .ref (am 11), .ref (am 12), .ref (am 13), .ref (am 14), .ref (am 15), .int 0, .ref (am 17), .ref (am 18), .ref (am 19), .ref (am 20), .int 0, .ref (am 22), .int 0, .ref (am 24), .ref (am 25), .ref (am 26), .ref (am 27), .ref (am 28), .ref (am 29), .int 0, .ref (am 31), .ref (am 32), .ref (am 33), .int 0, .ref (am 35), .int 0, .ref (am 37), .ref (am 38), .ref (am 39), .ref (am 40), .ref (am 41), .ref (am 42), .ref (am 43), .int 0, .ref (am 45), .ref (am 46), .ref (am 47), .int 0, .ref (am 49), .int 0, .ref (am 51), .int 0, .ref (am 53), .ref (am 54), .int 1, .int 0, .ref (am 57), .long 0, .ref (am 59), .ref (am 60), .long 0, .int 0, .int 0, .int 0, .int 0, .int 0, .int 0, .ref (am 68), .int 0, .int 0, .ref (am 71), .ref (am 72), .ref (am 73), .ref (am 74), .ref (am 75), .ref (am 76), .ref (am 77), .ref (am 78)]))] H) (hD : va_D (fun q : Nat => s.heap.size ≤ q) [(hc_, .inr (11, [.ref (ad 0), .ref (ad 1), .ref (ad 2), .ref (ad 3), .ref (ad 4), .ref (ad 5), .ref (ad 6), .ref (ad 7), .ref (ad 8), .int 0, .int 0, .int 0, .int 0])), (ad 8, .inl (cd 8, 4, .inr (.inr (.inr (.inr (va_up (va_up (va_up (va_up (fun _ => none) 0 (some (sa 0))) 1 (some (sa 1))) 2 (some (sa 2))) 3 (some (sa 3)))))))), (hm_, .inr (12, [.int 0, .int 0, .ref (am 2), .ref (am 3), .ref (am 4), .int 0, .ref (am 6), .ref (am 7), .ref (am 8), .int 0, .ref (am 10), .ref (am 11), .ref (am 12), .ref (am 13), .ref (am 14), .ref (am 15), .int 0, .ref (am 17), .ref (am 18), .ref (am 19), .ref (am 20), .int 0, .ref (am 22), .int 0, .ref (am 24), .ref (am 25), .ref (am 26), .ref (am 27), .ref (am 28), .ref (am 29), .int 0, .ref (am 31), .ref (am 32), .ref (am 33), .int 0, .ref (am 35), .int 0, .ref (am 37), .ref (am 38), .ref (am 39), .ref (am 40), .ref (am 41), .ref (am 42), .ref (am 43), .int 0, .ref (am 45), .ref (am 46), .ref (am 47), .int 0, .ref (am 49), .int 0, .ref (am 51), .int 0, .ref (am 53), .ref (am 54), .int 1, .int 0, .ref (am 57), .long 0, .ref (am 59), .ref (am 60), .long 0, .int 0, .int 0, .int 0, .int 0, .int 0, .int 0, .ref (am 68), .int 0, .int 0, .ref (am 71), .ref (am 72), .ref (am 73), .ref (am 74), .ref (am 75), .ref (am 76), .ref (am 77), .ref (am 78)]))]) (hS : va_S (fun q : Nat => s.heap.size ≤ q) s.heap H locs) (ls : Array Slot) (hl : lv_has ls 4 [(3, .int 0), (2, .ref hm_), (1, .ref hc_), (0, .ref b)]) : W p l e room_1 s m #[Value.ref b] below meth c H locs 124 5628 (lw_Z below #[Value.ref b] s) (F0 m 1741 ls []) := by
  obtain ⟨hx, hb, hr, hml, hown, hts, hX, hbl, hlocks, hgv⟩ := id C0
  have hown : s.vm.findClass RL = some m.cls := hown
  have hb : c.code = cL_law := hb
  generalize hAe : (fun q : Nat => s.heap.size ≤ q) = A at hD hS 
  have hA : ∀ q : Nat, s.heap.size ≤ q → A q := fun q h => by rw [← hAe]; exact h
  have hbA : ¬ A b := by rw [← hAe]; exact Nat.not_le.mpr hbl
  refine lv_aload_n hx hb dL_law_1741 rfl (lv_at hl 2 rfl) ?_
  refine lv_aload_n hx hb dL_law_1742 rfl (lv_at hl 3 rfl) ?_
  refine lv_iload_n hx hb dL_law_1743 rfl (lv_at hl 0 rfl) ?_
  refine lv_iconst (v := 1) hx hb dL_law_1744 (by decide) ?_
  refine lv_iadd hx hb dL_law_1745 ?_
  refine lv_topi (fun y_1 ey_1 => ?_)
  obtain rfl : y_1 = 1 := ey_1.trans (by decide)
  refine va_sld hx hb hX hbl hbA hS (by rw [hL6]; unfold vp_in; decide) dL_law_1746 ?_
  refine lv_aload_n hx hb dL_law_1747 rfl (lv_at hl 3 rfl) ?_
  refine lv_iload_n hx hb dL_law_1748 rfl (lv_at hl 0 rfl) ?_
  refine lv_iconst (v := 2) hx hb dL_law_1749 (by decide) ?_
  refine lv_iadd hx hb dL_law_1750 ?_
  refine lv_topi (fun y_2 ey_2 => ?_)
  obtain rfl : y_2 = 2 := ey_2.trans (by decide)
  refine va_sld hx hb hX hbl hbA hS (by rw [hL6]; unfold vp_in; decide) dL_law_1751 ?_
  refine lv_aload_n hx hb dL_law_1752 rfl (lv_at hl 3 rfl) ?_
  refine lv_iload_n hx hb dL_law_1753 rfl (lv_at hl 0 rfl) ?_
  refine lv_iconst (v := 3) hx hb dL_law_1754 (by decide) ?_
  refine lv_iadd hx hb dL_law_1755 ?_
  refine lv_topi (fun y_3 ey_3 => ?_)
  obtain rfl : y_3 = 3 := ey_3.trans (by decide)
  refine va_sld hx hb hX hbl hbA hS (by rw [hL6]; unfold vp_in; decide) dL_law_1756 ?_
  refine lv_aload_n hx hb dL_law_1757 rfl (lv_at hl 3 rfl) ?_
  refine lv_iload_n hx hb dL_law_1758 rfl (lv_at hl 0 rfl) ?_
  refine lv_iconst (v := 4) hx hb dL_law_1759 (by decide) ?_
  refine lv_iadd hx hb dL_law_1760 ?_
  refine lv_topi (fun y_4 ey_4 => ?_)
  obtain rfl : y_4 = 4 := ey_4.trans (by decide)
  refine va_sld hx hb hX hbl hbA hS (by rw [hL6]; unfold vp_in; decide) dL_law_1761 ?_
  refine lv_aload_n hx hb dL_law_1762 rfl (lv_at hl 3 rfl) ?_
  refine lv_iload_n hx hb dL_law_1763 rfl (lv_at hl 0 rfl) ?_
  refine lv_iconst (v := 5) hx hb dL_law_1764 (by decide) ?_
  refine lv_iadd hx hb dL_law_1765 ?_
  refine lv_topi (fun y_5 ey_5 => ?_)
  obtain rfl : y_5 = 5 := ey_5.trans (by decide)
  refine va_sld hx hb hX hbl hbA hS (by rw [hL6]; unfold vp_in; decide) dL_law_1766 ?_
  rcases (show ((xs (2 : Int32).toNatClampNeg).toInt < 0 ∨ 4 ≤ (xs (2 : Int32).toNatClampNeg).toInt) ∨ (xs (2 : Int32).toNatClampNeg) = 0 ∨ (xs (2 : Int32).toNatClampNeg) = 1 ∨ (xs (2 : Int32).toNatClampNeg) = 2 ∨ (xs (2 : Int32).toNatClampNeg) = 3 by simp only [fa_eq, Int32.reduceToInt]; omega) with c_6 | c_6 | c_6 | c_6 | c_6
  · have hPc := hP.sub (ws' := [(hc_, .inr (11, [.ref (ad 0), .ref (ad 1), .ref (ad 2), .ref (ad 3), .ref (ad 4), .ref (ad 5), .ref (ad 6), .ref (ad 7), .ref (ad 8), .int 0, .int 0, .int 0, .int 0])), (ad 8, .inl (cd 8, 4, .inr (.inr (.inr (.inr (va_up (va_up (va_up (va_up (fun _ => none) 0 (some (sa 0))) 1 (some (sa 1))) 2 (some (sa 2))) 3 (some (sa 3))))))))]) [0, 1] rfl
    have hKc := hK.sub (tys' := [(cd 8, .object RX7)]) [0] rfl
    refine vp_callSi (va_Run.run (va_runV (As := [.int (xs (1 : Int32).toNatClampNeg), .int (xs (2 : Int32).toNatClampNeg), .int (xs (3 : Int32).toNatClampNeg), .int (xs (4 : Int32).toNatClampNeg), .int (xs (5 : Int32).toNatClampNeg)]) (rest := []) ⟨hx, hb, hml, hown, hts⟩ (rt_X11_fixesO l dC dI hc_ ad (cd 8) (va_up (va_up (va_up (va_up (fun _ => none) 0 (some (sa 0))) 1 (some (sa 1))) 2 (some (sa 2))) 3 (some (sa 3))) (xs (1 : Int32).toNatClampNeg) (xs (2 : Int32).toNatClampNeg) (xs (3 : Int32).toNatClampNeg) (xs (4 : Int32).toNatClampNeg) (xs (5 : Int32).toNatClampNeg) c_6) (cwV 5 hts gL_law_X11_fixes rfl rfl rfl (by decide +kernel) ⟨Nat.le_of_ble_eq_true rfl, Nat.le_of_ble_eq_true rfl⟩) ⟨fun a U g mk q => by obtain ⟨q0, qP, qK⟩ := q; exact ⟨q0, qP, va_K.moved (u := U) (U := U.calling g mk a) (Vm.Alike.refl U.vm) qK⟩, va_recv hKc hPc (ci := 11) (q0 := 0) rfl rfl, fun U hU hW => ⟨rfl, by rw [hU]; exact hPc, va_K.moved hW.alike hKc⟩⟩ rfl rfl hl.1 rfl (lv_room (Nat.le_of_ble_eq_true rfl)) dL_law_1767 ⟨by decide +kernel, by decide +kernel⟩)) (fun r_7 hr_7 => ?_)
    obtain rfl := hr_7
    refine lv_aload_n hx hb dL_law_1770 rfl (lv_at hl 1 rfl) ?_
    refine lv_aload_n hx hb dL_law_1771 rfl (lv_at hl 3 rfl) ?_
    refine lv_iload_n hx hb dL_law_1772 rfl (lv_at hl 0 rfl) ?_
    refine lv_iconst (v := 1) hx hb dL_law_1773 (by decide) ?_
    refine lv_iadd hx hb dL_law_1774 ?_
    refine lv_topi (fun y_8 ey_8 => ?_)
    obtain rfl : y_8 = 1 := ey_8.trans (by decide)
    refine va_sld hx hb hX hbl hbA hS (by rw [hL6]; unfold vp_in; decide) dL_law_1775 ?_
    refine lv_aload_n hx hb dL_law_1776 rfl (lv_at hl 3 rfl) ?_
    refine lv_iload_n hx hb dL_law_1777 rfl (lv_at hl 0 rfl) ?_
    refine lv_iconst (v := 2) hx hb dL_law_1778 (by decide) ?_
    refine lv_iadd hx hb dL_law_1779 ?_
    refine lv_topi (fun y_9 ey_9 => ?_)
    obtain rfl : y_9 = 2 := ey_9.trans (by decide)
    refine va_sld hx hb hX hbl hbA hS (by rw [hL6]; unfold vp_in; decide) dL_law_1780 ?_
    refine lv_aload_n hx hb dL_law_1781 rfl (lv_at hl 3 rfl) ?_
    refine lv_iload_n hx hb dL_law_1782 rfl (lv_at hl 0 rfl) ?_
    refine lv_iconst (v := 3) hx hb dL_law_1783 (by decide) ?_
    refine lv_iadd hx hb dL_law_1784 ?_
    refine lv_topi (fun y_10 ey_10 => ?_)
    obtain rfl : y_10 = 3 := ey_10.trans (by decide)
    refine va_sld hx hb hX hbl hbA hS (by rw [hL6]; unfold vp_in; decide) dL_law_1785 ?_
    refine lv_aload_n hx hb dL_law_1786 rfl (lv_at hl 3 rfl) ?_
    refine lv_iload_n hx hb dL_law_1787 rfl (lv_at hl 0 rfl) ?_
    refine lv_iconst (v := 4) hx hb dL_law_1788 (by decide) ?_
    refine lv_iadd hx hb dL_law_1789 ?_
    refine lv_topi (fun y_11 ey_11 => ?_)
    obtain rfl : y_11 = 4 := ey_11.trans (by decide)
    refine va_sld hx hb hX hbl hbA hS (by rw [hL6]; unfold vp_in; decide) dL_law_1790 ?_
    refine lv_aload_n hx hb dL_law_1791 rfl (lv_at hl 3 rfl) ?_
    refine lv_iload_n hx hb dL_law_1792 rfl (lv_at hl 0 rfl) ?_
    refine lv_iconst (v := 5) hx hb dL_law_1793 (by decide) ?_
    refine lv_iadd hx hb dL_law_1794 ?_
    refine lv_topi (fun y_12 ey_12 => ?_)
    obtain rfl : y_12 = 5 := ey_12.trans (by decide)
    refine va_sld hx hb hX hbl hbA hS (by rw [hL6]; unfold vp_in; decide) dL_law_1795 ?_
    have hPc := hP.sub (ws' := [(hm_, .inr (12, [.int 0, .int 0, .ref (am 2), .ref (am 3), .ref (am 4), .int 0, .ref (am 6), .ref (am 7), .ref (am 8), .int 0, .ref (am 10), .ref (am 11), .ref (am 12), .ref (am 13), .ref (am 14), .ref (am 15), .int 0, .ref (am 17), .ref (am 18), .ref (am 19), .ref (am 20), .int 0, .ref (am 22), .int 0, .ref (am 24), .ref (am 25), .ref (am 26), .ref (am 27), .ref (am 28), .ref (am 29), .int 0, .ref (am 31), .ref (am 32), .ref (am 33), .int 0, .ref (am 35), .int 0, .ref (am 37), .ref (am 38), .ref (am 39), .ref (am 40), .ref (am 41), .ref (am 42), .ref (am 43), .int 0, .ref (am 45), .ref (am 46), .ref (am 47), .int 0, .ref (am 49), .int 0, .ref (am 51), .int 0, .ref (am 53), .ref (am 54), .int 1, .int 0, .ref (am 57), .long 0, .ref (am 59), .ref (am 60), .long 0, .int 0, .int 0, .int 0, .int 0, .int 0, .int 0, .ref (am 68), .int 0, .int 0, .ref (am 71), .ref (am 72), .ref (am 73), .ref (am 74), .ref (am 75), .ref (am 76), .ref (am 77), .ref (am 78)]))]) [2] rfl
    have hKc := hK.sub (tys' := []) [] rfl
    refine vp_callSi (va_Run.run (va_runV (As := [.int (xs (1 : Int32).toNatClampNeg), .int (xs (2 : Int32).toNatClampNeg), .int (xs (3 : Int32).toNatClampNeg), .int (xs (4 : Int32).toNatClampNeg), .int (xs (5 : Int32).toNatClampNeg)]) (rest := [.int (-2)]) ⟨hx, hb, hml, hown, hts⟩ (rt_X12_fixes l dC dI hm_ am (xs (1 : Int32).toNatClampNeg) (xs (2 : Int32).toNatClampNeg) (xs (3 : Int32).toNatClampNeg) (xs (4 : Int32).toNatClampNeg) (xs (5 : Int32).toNatClampNeg)) (cwV 5 hts gL_law_X12_fixes rfl rfl rfl (by decide +kernel) ⟨Nat.le_of_ble_eq_true rfl, Nat.le_of_ble_eq_true rfl⟩) ⟨fun a U g mk q => by obtain ⟨q0, qP, qK⟩ := q; exact ⟨q0, qP, va_K.moved (u := U) (U := U.calling g mk a) (Vm.Alike.refl U.vm) qK⟩, va_recv hKc hPc (ci := 12) (q0 := 0) rfl rfl, fun U hU hW => ⟨rfl, by rw [hU]; exact hPc, va_K.moved hW.alike hKc⟩⟩ rfl rfl hl.1 rfl (lv_room (Nat.le_of_ble_eq_true rfl)) dL_law_1796 ⟨by decide +kernel, by decide +kernel⟩)) (fun r_13 hr_13 => ?_)
    obtain rfl := hr_13
    refine lv_icmp_eq (tgt := 1837) hx hb dL_law_1799 (by decide) (fun _ => ?_) (fun c9 => absurd (by decide) c9)
    exact law_fin C0 hL6 hS (by decide +kernel) (by decide +kernel) ls (lv_sub hl [3, 2, 1, 0] rfl)
  · have hPc := hP.sub (ws' := [(hc_, .inr (11, [.ref (ad 0), .ref (ad 1), .ref (ad 2), .ref (ad 3), .ref (ad 4), .ref (ad 5), .ref (ad 6), .ref (ad 7), .ref (ad 8), .int 0, .int 0, .int 0, .int 0])), (ad 8, .inl (cd 8, 4, .inr (.inr (.inr (.inr (va_up (va_up (va_up (va_up (fun _ => none) 0 (some (sa 0))) 1 (some (sa 1))) 2 (some (sa 2))) 3 (some (sa 3))))))))]) [0, 1] rfl
    have hKc := hK.sub (tys' := [(cd 8, .object RX7)]) [0] rfl
    refine vp_callSi (va_Run.run (va_runV (As := [.int (xs (1 : Int32).toNatClampNeg), .int (xs (2 : Int32).toNatClampNeg), .int (xs (3 : Int32).toNatClampNeg), .int (xs (4 : Int32).toNatClampNeg), .int (xs (5 : Int32).toNatClampNeg)]) (rest := []) ⟨hx, hb, hml, hown, hts⟩ (rt_X11_fixesI l dC dI hc_ ad (cd 8) (va_up (va_up (va_up (va_up (fun _ => none) 0 (some (sa 0))) 1 (some (sa 1))) 2 (some (sa 2))) 3 (some (sa 3))) (sa 0) (xs (1 : Int32).toNatClampNeg) (xs (2 : Int32).toNatClampNeg) (xs (3 : Int32).toNatClampNeg) (xs (4 : Int32).toNatClampNeg) (xs (5 : Int32).toNatClampNeg) (by rw [c_6]; decide) (by rw [c_6]; rfl)) (cwV 5 hts gL_law_X11_fixes rfl rfl rfl (by decide +kernel) ⟨Nat.le_of_ble_eq_true rfl, Nat.le_of_ble_eq_true rfl⟩) ⟨fun a U g mk q => by obtain ⟨q0, qP, qK⟩ := q; exact ⟨q0, qP, va_K.moved (u := U) (U := U.calling g mk a) (Vm.Alike.refl U.vm) qK⟩, va_recv hKc hPc (ci := 11) (q0 := 0) rfl rfl, fun U hU hW => ⟨rfl, by rw [hU]; exact hPc, va_K.moved hW.alike hKc⟩⟩ rfl rfl hl.1 rfl (lv_room (Nat.le_of_ble_eq_true rfl)) dL_law_1767 ⟨by decide +kernel, by decide +kernel⟩)) (fun r_14 hr_14 => ?_)
    obtain rfl := hr_14
    refine lv_aload_n hx hb dL_law_1770 rfl (lv_at hl 1 rfl) ?_
    refine lv_aload_n hx hb dL_law_1771 rfl (lv_at hl 3 rfl) ?_
    refine lv_iload_n hx hb dL_law_1772 rfl (lv_at hl 0 rfl) ?_
    refine lv_iconst (v := 1) hx hb dL_law_1773 (by decide) ?_
    refine lv_iadd hx hb dL_law_1774 ?_
    refine lv_topi (fun y_15 ey_15 => ?_)
    obtain rfl : y_15 = 1 := ey_15.trans (by decide)
    refine va_sld hx hb hX hbl hbA hS (by rw [hL6]; unfold vp_in; decide) dL_law_1775 ?_
    refine lv_aload_n hx hb dL_law_1776 rfl (lv_at hl 3 rfl) ?_
    refine lv_iload_n hx hb dL_law_1777 rfl (lv_at hl 0 rfl) ?_
    refine lv_iconst (v := 2) hx hb dL_law_1778 (by decide) ?_
    refine lv_iadd hx hb dL_law_1779 ?_
    refine lv_topi (fun y_16 ey_16 => ?_)
    obtain rfl : y_16 = 2 := ey_16.trans (by decide)
    refine va_sld hx hb hX hbl hbA hS (by rw [hL6]; unfold vp_in; decide) dL_law_1780 ?_
    refine lv_aload_n hx hb dL_law_1781 rfl (lv_at hl 3 rfl) ?_
    refine lv_iload_n hx hb dL_law_1782 rfl (lv_at hl 0 rfl) ?_
    refine lv_iconst (v := 3) hx hb dL_law_1783 (by decide) ?_
    refine lv_iadd hx hb dL_law_1784 ?_
    refine lv_topi (fun y_17 ey_17 => ?_)
    obtain rfl : y_17 = 3 := ey_17.trans (by decide)
    refine va_sld hx hb hX hbl hbA hS (by rw [hL6]; unfold vp_in; decide) dL_law_1785 ?_
    refine lv_aload_n hx hb dL_law_1786 rfl (lv_at hl 3 rfl) ?_
    refine lv_iload_n hx hb dL_law_1787 rfl (lv_at hl 0 rfl) ?_
    refine lv_iconst (v := 4) hx hb dL_law_1788 (by decide) ?_
    refine lv_iadd hx hb dL_law_1789 ?_
    refine lv_topi (fun y_18 ey_18 => ?_)
    obtain rfl : y_18 = 4 := ey_18.trans (by decide)
    refine va_sld hx hb hX hbl hbA hS (by rw [hL6]; unfold vp_in; decide) dL_law_1790 ?_
    refine lv_aload_n hx hb dL_law_1791 rfl (lv_at hl 3 rfl) ?_
    refine lv_iload_n hx hb dL_law_1792 rfl (lv_at hl 0 rfl) ?_
    refine lv_iconst (v := 5) hx hb dL_law_1793 (by decide) ?_
    refine lv_iadd hx hb dL_law_1794 ?_
    refine lv_topi (fun y_19 ey_19 => ?_)
    obtain rfl : y_19 = 5 := ey_19.trans (by decide)
    refine va_sld hx hb hX hbl hbA hS (by rw [hL6]; unfold vp_in; decide) dL_law_1795 ?_
    have hPc := hP.sub (ws' := [(hm_, .inr (12, [.int 0, .int 0, .ref (am 2), .ref (am 3), .ref (am 4), .int 0, .ref (am 6), .ref (am 7), .ref (am 8), .int 0, .ref (am 10), .ref (am 11), .ref (am 12), .ref (am 13), .ref (am 14), .ref (am 15), .int 0, .ref (am 17), .ref (am 18), .ref (am 19), .ref (am 20), .int 0, .ref (am 22), .int 0, .ref (am 24), .ref (am 25), .ref (am 26), .ref (am 27), .ref (am 28), .ref (am 29), .int 0, .ref (am 31), .ref (am 32), .ref (am 33), .int 0, .ref (am 35), .int 0, .ref (am 37), .ref (am 38), .ref (am 39), .ref (am 40), .ref (am 41), .ref (am 42), .ref (am 43), .int 0, .ref (am 45), .ref (am 46), .ref (am 47), .int 0, .ref (am 49), .int 0, .ref (am 51), .int 0, .ref (am 53), .ref (am 54), .int 1, .int 0, .ref (am 57), .long 0, .ref (am 59), .ref (am 60), .long 0, .int 0, .int 0, .int 0, .int 0, .int 0, .int 0, .ref (am 68), .int 0, .int 0, .ref (am 71), .ref (am 72), .ref (am 73), .ref (am 74), .ref (am 75), .ref (am 76), .ref (am 77), .ref (am 78)]))]) [2] rfl
    have hKc := hK.sub (tys' := []) [] rfl
    refine vp_callSi (va_Run.run (va_runV (As := [.int (xs (1 : Int32).toNatClampNeg), .int (xs (2 : Int32).toNatClampNeg), .int (xs (3 : Int32).toNatClampNeg), .int (xs (4 : Int32).toNatClampNeg), .int (xs (5 : Int32).toNatClampNeg)]) (rest := [.int (-2)]) ⟨hx, hb, hml, hown, hts⟩ (rt_X12_fixes l dC dI hm_ am (xs (1 : Int32).toNatClampNeg) (xs (2 : Int32).toNatClampNeg) (xs (3 : Int32).toNatClampNeg) (xs (4 : Int32).toNatClampNeg) (xs (5 : Int32).toNatClampNeg)) (cwV 5 hts gL_law_X12_fixes rfl rfl rfl (by decide +kernel) ⟨Nat.le_of_ble_eq_true rfl, Nat.le_of_ble_eq_true rfl⟩) ⟨fun a U g mk q => by obtain ⟨q0, qP, qK⟩ := q; exact ⟨q0, qP, va_K.moved (u := U) (U := U.calling g mk a) (Vm.Alike.refl U.vm) qK⟩, va_recv hKc hPc (ci := 12) (q0 := 0) rfl rfl, fun U hU hW => ⟨rfl, by rw [hU]; exact hPc, va_K.moved hW.alike hKc⟩⟩ rfl rfl hl.1 rfl (lv_room (Nat.le_of_ble_eq_true rfl)) dL_law_1796 ⟨by decide +kernel, by decide +kernel⟩)) (fun r_20 hr_20 => ?_)
    obtain rfl := hr_20
    refine lv_icmp_eq (tgt := 1837) hx hb dL_law_1799 (by decide) (fun _ => ?_) (fun c9 => absurd (by decide) c9)
    exact law_fin C0 hL6 hS (by decide +kernel) (by decide +kernel) ls (lv_sub hl [3, 2, 1, 0] rfl)
  · have hPc := hP.sub (ws' := [(hc_, .inr (11, [.ref (ad 0), .ref (ad 1), .ref (ad 2), .ref (ad 3), .ref (ad 4), .ref (ad 5), .ref (ad 6), .ref (ad 7), .ref (ad 8), .int 0, .int 0, .int 0, .int 0])), (ad 8, .inl (cd 8, 4, .inr (.inr (.inr (.inr (va_up (va_up (va_up (va_up (fun _ => none) 0 (some (sa 0))) 1 (some (sa 1))) 2 (some (sa 2))) 3 (some (sa 3))))))))]) [0, 1] rfl
    have hKc := hK.sub (tys' := [(cd 8, .object RX7)]) [0] rfl
    refine vp_callSi (va_Run.run (va_runV (As := [.int (xs (1 : Int32).toNatClampNeg), .int (xs (2 : Int32).toNatClampNeg), .int (xs (3 : Int32).toNatClampNeg), .int (xs (4 : Int32).toNatClampNeg), .int (xs (5 : Int32).toNatClampNeg)]) (rest := []) ⟨hx, hb, hml, hown, hts⟩ (rt_X11_fixesI l dC dI hc_ ad (cd 8) (va_up (va_up (va_up (va_up (fun _ => none) 0 (some (sa 0))) 1 (some (sa 1))) 2 (some (sa 2))) 3 (some (sa 3))) (sa 1) (xs (1 : Int32).toNatClampNeg) (xs (2 : Int32).toNatClampNeg) (xs (3 : Int32).toNatClampNeg) (xs (4 : Int32).toNatClampNeg) (xs (5 : Int32).toNatClampNeg) (by rw [c_6]; decide) (by rw [c_6]; rfl)) (cwV 5 hts gL_law_X11_fixes rfl rfl rfl (by decide +kernel) ⟨Nat.le_of_ble_eq_true rfl, Nat.le_of_ble_eq_true rfl⟩) ⟨fun a U g mk q => by obtain ⟨q0, qP, qK⟩ := q; exact ⟨q0, qP, va_K.moved (u := U) (U := U.calling g mk a) (Vm.Alike.refl U.vm) qK⟩, va_recv hKc hPc (ci := 11) (q0 := 0) rfl rfl, fun U hU hW => ⟨rfl, by rw [hU]; exact hPc, va_K.moved hW.alike hKc⟩⟩ rfl rfl hl.1 rfl (lv_room (Nat.le_of_ble_eq_true rfl)) dL_law_1767 ⟨by decide +kernel, by decide +kernel⟩)) (fun r_21 hr_21 => ?_)
    obtain rfl := hr_21
    refine lv_aload_n hx hb dL_law_1770 rfl (lv_at hl 1 rfl) ?_
    refine lv_aload_n hx hb dL_law_1771 rfl (lv_at hl 3 rfl) ?_
    refine lv_iload_n hx hb dL_law_1772 rfl (lv_at hl 0 rfl) ?_
    refine lv_iconst (v := 1) hx hb dL_law_1773 (by decide) ?_
    refine lv_iadd hx hb dL_law_1774 ?_
    refine lv_topi (fun y_22 ey_22 => ?_)
    obtain rfl : y_22 = 1 := ey_22.trans (by decide)
    refine va_sld hx hb hX hbl hbA hS (by rw [hL6]; unfold vp_in; decide) dL_law_1775 ?_
    refine lv_aload_n hx hb dL_law_1776 rfl (lv_at hl 3 rfl) ?_
    refine lv_iload_n hx hb dL_law_1777 rfl (lv_at hl 0 rfl) ?_
    refine lv_iconst (v := 2) hx hb dL_law_1778 (by decide) ?_
    refine lv_iadd hx hb dL_law_1779 ?_
    refine lv_topi (fun y_23 ey_23 => ?_)
    obtain rfl : y_23 = 2 := ey_23.trans (by decide)
    refine va_sld hx hb hX hbl hbA hS (by rw [hL6]; unfold vp_in; decide) dL_law_1780 ?_
    refine lv_aload_n hx hb dL_law_1781 rfl (lv_at hl 3 rfl) ?_
    refine lv_iload_n hx hb dL_law_1782 rfl (lv_at hl 0 rfl) ?_
    refine lv_iconst (v := 3) hx hb dL_law_1783 (by decide) ?_
    refine lv_iadd hx hb dL_law_1784 ?_
    refine lv_topi (fun y_24 ey_24 => ?_)
    obtain rfl : y_24 = 3 := ey_24.trans (by decide)
    refine va_sld hx hb hX hbl hbA hS (by rw [hL6]; unfold vp_in; decide) dL_law_1785 ?_
    refine lv_aload_n hx hb dL_law_1786 rfl (lv_at hl 3 rfl) ?_
    refine lv_iload_n hx hb dL_law_1787 rfl (lv_at hl 0 rfl) ?_
    refine lv_iconst (v := 4) hx hb dL_law_1788 (by decide) ?_
    refine lv_iadd hx hb dL_law_1789 ?_
    refine lv_topi (fun y_25 ey_25 => ?_)
    obtain rfl : y_25 = 4 := ey_25.trans (by decide)
    refine va_sld hx hb hX hbl hbA hS (by rw [hL6]; unfold vp_in; decide) dL_law_1790 ?_
    refine lv_aload_n hx hb dL_law_1791 rfl (lv_at hl 3 rfl) ?_
    refine lv_iload_n hx hb dL_law_1792 rfl (lv_at hl 0 rfl) ?_
    refine lv_iconst (v := 5) hx hb dL_law_1793 (by decide) ?_
    refine lv_iadd hx hb dL_law_1794 ?_
    refine lv_topi (fun y_26 ey_26 => ?_)
    obtain rfl : y_26 = 5 := ey_26.trans (by decide)
    refine va_sld hx hb hX hbl hbA hS (by rw [hL6]; unfold vp_in; decide) dL_law_1795 ?_
    have hPc := hP.sub (ws' := [(hm_, .inr (12, [.int 0, .int 0, .ref (am 2), .ref (am 3), .ref (am 4), .int 0, .ref (am 6), .ref (am 7), .ref (am 8), .int 0, .ref (am 10), .ref (am 11), .ref (am 12), .ref (am 13), .ref (am 14), .ref (am 15), .int 0, .ref (am 17), .ref (am 18), .ref (am 19), .ref (am 20), .int 0, .ref (am 22), .int 0, .ref (am 24), .ref (am 25), .ref (am 26), .ref (am 27), .ref (am 28), .ref (am 29), .int 0, .ref (am 31), .ref (am 32), .ref (am 33), .int 0, .ref (am 35), .int 0, .ref (am 37), .ref (am 38), .ref (am 39), .ref (am 40), .ref (am 41), .ref (am 42), .ref (am 43), .int 0, .ref (am 45), .ref (am 46), .ref (am 47), .int 0, .ref (am 49), .int 0, .ref (am 51), .int 0, .ref (am 53), .ref (am 54), .int 1, .int 0, .ref (am 57), .long 0, .ref (am 59), .ref (am 60), .long 0, .int 0, .int 0, .int 0, .int 0, .int 0, .int 0, .ref (am 68), .int 0, .int 0, .ref (am 71), .ref (am 72), .ref (am 73), .ref (am 74), .ref (am 75), .ref (am 76), .ref (am 77), .ref (am 78)]))]) [2] rfl
    have hKc := hK.sub (tys' := []) [] rfl
    refine vp_callSi (va_Run.run (va_runV (As := [.int (xs (1 : Int32).toNatClampNeg), .int (xs (2 : Int32).toNatClampNeg), .int (xs (3 : Int32).toNatClampNeg), .int (xs (4 : Int32).toNatClampNeg), .int (xs (5 : Int32).toNatClampNeg)]) (rest := [.int (-2)]) ⟨hx, hb, hml, hown, hts⟩ (rt_X12_fixes l dC dI hm_ am (xs (1 : Int32).toNatClampNeg) (xs (2 : Int32).toNatClampNeg) (xs (3 : Int32).toNatClampNeg) (xs (4 : Int32).toNatClampNeg) (xs (5 : Int32).toNatClampNeg)) (cwV 5 hts gL_law_X12_fixes rfl rfl rfl (by decide +kernel) ⟨Nat.le_of_ble_eq_true rfl, Nat.le_of_ble_eq_true rfl⟩) ⟨fun a U g mk q => by obtain ⟨q0, qP, qK⟩ := q; exact ⟨q0, qP, va_K.moved (u := U) (U := U.calling g mk a) (Vm.Alike.refl U.vm) qK⟩, va_recv hKc hPc (ci := 12) (q0 := 0) rfl rfl, fun U hU hW => ⟨rfl, by rw [hU]; exact hPc, va_K.moved hW.alike hKc⟩⟩ rfl rfl hl.1 rfl (lv_room (Nat.le_of_ble_eq_true rfl)) dL_law_1796 ⟨by decide +kernel, by decide +kernel⟩)) (fun r_27 hr_27 => ?_)
    obtain rfl := hr_27
    refine lv_icmp_eq (tgt := 1837) hx hb dL_law_1799 (by decide) (fun _ => ?_) (fun c9 => absurd (by decide) c9)
    exact law_fin C0 hL6 hS (by decide +kernel) (by decide +kernel) ls (lv_sub hl [3, 2, 1, 0] rfl)
  · have hPc := hP.sub (ws' := [(hc_, .inr (11, [.ref (ad 0), .ref (ad 1), .ref (ad 2), .ref (ad 3), .ref (ad 4), .ref (ad 5), .ref (ad 6), .ref (ad 7), .ref (ad 8), .int 0, .int 0, .int 0, .int 0])), (ad 8, .inl (cd 8, 4, .inr (.inr (.inr (.inr (va_up (va_up (va_up (va_up (fun _ => none) 0 (some (sa 0))) 1 (some (sa 1))) 2 (some (sa 2))) 3 (some (sa 3))))))))]) [0, 1] rfl
    have hKc := hK.sub (tys' := [(cd 8, .object RX7)]) [0] rfl
    refine vp_callSi (va_Run.run (va_runV (As := [.int (xs (1 : Int32).toNatClampNeg), .int (xs (2 : Int32).toNatClampNeg), .int (xs (3 : Int32).toNatClampNeg), .int (xs (4 : Int32).toNatClampNeg), .int (xs (5 : Int32).toNatClampNeg)]) (rest := []) ⟨hx, hb, hml, hown, hts⟩ (rt_X11_fixesI l dC dI hc_ ad (cd 8) (va_up (va_up (va_up (va_up (fun _ => none) 0 (some (sa 0))) 1 (some (sa 1))) 2 (some (sa 2))) 3 (some (sa 3))) (sa 2) (xs (1 : Int32).toNatClampNeg) (xs (2 : Int32).toNatClampNeg) (xs (3 : Int32).toNatClampNeg) (xs (4 : Int32).toNatClampNeg) (xs (5 : Int32).toNatClampNeg) (by rw [c_6]; decide) (by rw [c_6]; rfl)) (cwV 5 hts gL_law_X11_fixes rfl rfl rfl (by decide +kernel) ⟨Nat.le_of_ble_eq_true rfl, Nat.le_of_ble_eq_true rfl⟩) ⟨fun a U g mk q => by obtain ⟨q0, qP, qK⟩ := q; exact ⟨q0, qP, va_K.moved (u := U) (U := U.calling g mk a) (Vm.Alike.refl U.vm) qK⟩, va_recv hKc hPc (ci := 11) (q0 := 0) rfl rfl, fun U hU hW => ⟨rfl, by rw [hU]; exact hPc, va_K.moved hW.alike hKc⟩⟩ rfl rfl hl.1 rfl (lv_room (Nat.le_of_ble_eq_true rfl)) dL_law_1767 ⟨by decide +kernel, by decide +kernel⟩)) (fun r_28 hr_28 => ?_)
    obtain rfl := hr_28
    refine lv_aload_n hx hb dL_law_1770 rfl (lv_at hl 1 rfl) ?_
    refine lv_aload_n hx hb dL_law_1771 rfl (lv_at hl 3 rfl) ?_
    refine lv_iload_n hx hb dL_law_1772 rfl (lv_at hl 0 rfl) ?_
    refine lv_iconst (v := 1) hx hb dL_law_1773 (by decide) ?_
    refine lv_iadd hx hb dL_law_1774 ?_
    refine lv_topi (fun y_29 ey_29 => ?_)
    obtain rfl : y_29 = 1 := ey_29.trans (by decide)
    refine va_sld hx hb hX hbl hbA hS (by rw [hL6]; unfold vp_in; decide) dL_law_1775 ?_
    refine lv_aload_n hx hb dL_law_1776 rfl (lv_at hl 3 rfl) ?_
    refine lv_iload_n hx hb dL_law_1777 rfl (lv_at hl 0 rfl) ?_
    refine lv_iconst (v := 2) hx hb dL_law_1778 (by decide) ?_
    refine lv_iadd hx hb dL_law_1779 ?_
    refine lv_topi (fun y_30 ey_30 => ?_)
    obtain rfl : y_30 = 2 := ey_30.trans (by decide)
    refine va_sld hx hb hX hbl hbA hS (by rw [hL6]; unfold vp_in; decide) dL_law_1780 ?_
    refine lv_aload_n hx hb dL_law_1781 rfl (lv_at hl 3 rfl) ?_
    refine lv_iload_n hx hb dL_law_1782 rfl (lv_at hl 0 rfl) ?_
    refine lv_iconst (v := 3) hx hb dL_law_1783 (by decide) ?_
    refine lv_iadd hx hb dL_law_1784 ?_
    refine lv_topi (fun y_31 ey_31 => ?_)
    obtain rfl : y_31 = 3 := ey_31.trans (by decide)
    refine va_sld hx hb hX hbl hbA hS (by rw [hL6]; unfold vp_in; decide) dL_law_1785 ?_
    refine lv_aload_n hx hb dL_law_1786 rfl (lv_at hl 3 rfl) ?_
    refine lv_iload_n hx hb dL_law_1787 rfl (lv_at hl 0 rfl) ?_
    refine lv_iconst (v := 4) hx hb dL_law_1788 (by decide) ?_
    refine lv_iadd hx hb dL_law_1789 ?_
    refine lv_topi (fun y_32 ey_32 => ?_)
    obtain rfl : y_32 = 4 := ey_32.trans (by decide)
    refine va_sld hx hb hX hbl hbA hS (by rw [hL6]; unfold vp_in; decide) dL_law_1790 ?_
    refine lv_aload_n hx hb dL_law_1791 rfl (lv_at hl 3 rfl) ?_
    refine lv_iload_n hx hb dL_law_1792 rfl (lv_at hl 0 rfl) ?_
    refine lv_iconst (v := 5) hx hb dL_law_1793 (by decide) ?_
    refine lv_iadd hx hb dL_law_1794 ?_
    refine lv_topi (fun y_33 ey_33 => ?_)
    obtain rfl : y_33 = 5 := ey_33.trans (by decide)
    refine va_sld hx hb hX hbl hbA hS (by rw [hL6]; unfold vp_in; decide) dL_law_1795 ?_
    have hPc := hP.sub (ws' := [(hm_, .inr (12, [.int 0, .int 0, .ref (am 2), .ref (am 3), .ref (am 4), .int 0, .ref (am 6), .ref (am 7), .ref (am 8), .int 0, .ref (am 10), .ref (am 11), .ref (am 12), .ref (am 13), .ref (am 14), .ref (am 15), .int 0, .ref (am 17), .ref (am 18), .ref (am 19), .ref (am 20), .int 0, .ref (am 22), .int 0, .ref (am 24), .ref (am 25), .ref (am 26), .ref (am 27), .ref (am 28), .ref (am 29), .int 0, .ref (am 31), .ref (am 32), .ref (am 33), .int 0, .ref (am 35), .int 0, .ref (am 37), .ref (am 38), .ref (am 39), .ref (am 40), .ref (am 41), .ref (am 42), .ref (am 43), .int 0, .ref (am 45), .ref (am 46), .ref (am 47), .int 0, .ref (am 49), .int 0, .ref (am 51), .int 0, .ref (am 53), .ref (am 54), .int 1, .int 0, .ref (am 57), .long 0, .ref (am 59), .ref (am 60), .long 0, .int 0, .int 0, .int 0, .int 0, .int 0, .int 0, .ref (am 68), .int 0, .int 0, .ref (am 71), .ref (am 72), .ref (am 73), .ref (am 74), .ref (am 75), .ref (am 76), .ref (am 77), .ref (am 78)]))]) [2] rfl
    have hKc := hK.sub (tys' := []) [] rfl
    refine vp_callSi (va_Run.run (va_runV (As := [.int (xs (1 : Int32).toNatClampNeg), .int (xs (2 : Int32).toNatClampNeg), .int (xs (3 : Int32).toNatClampNeg), .int (xs (4 : Int32).toNatClampNeg), .int (xs (5 : Int32).toNatClampNeg)]) (rest := [.int (-2)]) ⟨hx, hb, hml, hown, hts⟩ (rt_X12_fixes l dC dI hm_ am (xs (1 : Int32).toNatClampNeg) (xs (2 : Int32).toNatClampNeg) (xs (3 : Int32).toNatClampNeg) (xs (4 : Int32).toNatClampNeg) (xs (5 : Int32).toNatClampNeg)) (cwV 5 hts gL_law_X12_fixes rfl rfl rfl (by decide +kernel) ⟨Nat.le_of_ble_eq_true rfl, Nat.le_of_ble_eq_true rfl⟩) ⟨fun a U g mk q => by obtain ⟨q0, qP, qK⟩ := q; exact ⟨q0, qP, va_K.moved (u := U) (U := U.calling g mk a) (Vm.Alike.refl U.vm) qK⟩, va_recv hKc hPc (ci := 12) (q0 := 0) rfl rfl, fun U hU hW => ⟨rfl, by rw [hU]; exact hPc, va_K.moved hW.alike hKc⟩⟩ rfl rfl hl.1 rfl (lv_room (Nat.le_of_ble_eq_true rfl)) dL_law_1796 ⟨by decide +kernel, by decide +kernel⟩)) (fun r_34 hr_34 => ?_)
    obtain rfl := hr_34
    refine lv_icmp_eq (tgt := 1837) hx hb dL_law_1799 (by decide) (fun _ => ?_) (fun c9 => absurd (by decide) c9)
    exact law_fin C0 hL6 hS (by decide +kernel) (by decide +kernel) ls (lv_sub hl [3, 2, 1, 0] rfl)
  · have hPc := hP.sub (ws' := [(hc_, .inr (11, [.ref (ad 0), .ref (ad 1), .ref (ad 2), .ref (ad 3), .ref (ad 4), .ref (ad 5), .ref (ad 6), .ref (ad 7), .ref (ad 8), .int 0, .int 0, .int 0, .int 0])), (ad 8, .inl (cd 8, 4, .inr (.inr (.inr (.inr (va_up (va_up (va_up (va_up (fun _ => none) 0 (some (sa 0))) 1 (some (sa 1))) 2 (some (sa 2))) 3 (some (sa 3))))))))]) [0, 1] rfl
    have hKc := hK.sub (tys' := [(cd 8, .object RX7)]) [0] rfl
    refine vp_callSi (va_Run.run (va_runV (As := [.int (xs (1 : Int32).toNatClampNeg), .int (xs (2 : Int32).toNatClampNeg), .int (xs (3 : Int32).toNatClampNeg), .int (xs (4 : Int32).toNatClampNeg), .int (xs (5 : Int32).toNatClampNeg)]) (rest := []) ⟨hx, hb, hml, hown, hts⟩ (rt_X11_fixesI l dC dI hc_ ad (cd 8) (va_up (va_up (va_up (va_up (fun _ => none) 0 (some (sa 0))) 1 (some (sa 1))) 2 (some (sa 2))) 3 (some (sa 3))) (sa 3) (xs (1 : Int32).toNatClampNeg) (xs (2 : Int32).toNatClampNeg) (xs (3 : Int32).toNatClampNeg) (xs (4 : Int32).toNatClampNeg) (xs (5 : Int32).toNatClampNeg) (by rw [c_6]; decide) (by rw [c_6]; rfl)) (cwV 5 hts gL_law_X11_fixes rfl rfl rfl (by decide +kernel) ⟨Nat.le_of_ble_eq_true rfl, Nat.le_of_ble_eq_true rfl⟩) ⟨fun a U g mk q => by obtain ⟨q0, qP, qK⟩ := q; exact ⟨q0, qP, va_K.moved (u := U) (U := U.calling g mk a) (Vm.Alike.refl U.vm) qK⟩, va_recv hKc hPc (ci := 11) (q0 := 0) rfl rfl, fun U hU hW => ⟨rfl, by rw [hU]; exact hPc, va_K.moved hW.alike hKc⟩⟩ rfl rfl hl.1 rfl (lv_room (Nat.le_of_ble_eq_true rfl)) dL_law_1767 ⟨by decide +kernel, by decide +kernel⟩)) (fun r_35 hr_35 => ?_)
    obtain rfl := hr_35
    refine lv_aload_n hx hb dL_law_1770 rfl (lv_at hl 1 rfl) ?_
    refine lv_aload_n hx hb dL_law_1771 rfl (lv_at hl 3 rfl) ?_
    refine lv_iload_n hx hb dL_law_1772 rfl (lv_at hl 0 rfl) ?_
    refine lv_iconst (v := 1) hx hb dL_law_1773 (by decide) ?_
    refine lv_iadd hx hb dL_law_1774 ?_
    refine lv_topi (fun y_36 ey_36 => ?_)
    obtain rfl : y_36 = 1 := ey_36.trans (by decide)
    refine va_sld hx hb hX hbl hbA hS (by rw [hL6]; unfold vp_in; decide) dL_law_1775 ?_
    refine lv_aload_n hx hb dL_law_1776 rfl (lv_at hl 3 rfl) ?_
    refine lv_iload_n hx hb dL_law_1777 rfl (lv_at hl 0 rfl) ?_
    refine lv_iconst (v := 2) hx hb dL_law_1778 (by decide) ?_
    refine lv_iadd hx hb dL_law_1779 ?_
    refine lv_topi (fun y_37 ey_37 => ?_)
    obtain rfl : y_37 = 2 := ey_37.trans (by decide)
    refine va_sld hx hb hX hbl hbA hS (by rw [hL6]; unfold vp_in; decide) dL_law_1780 ?_
    refine lv_aload_n hx hb dL_law_1781 rfl (lv_at hl 3 rfl) ?_
    refine lv_iload_n hx hb dL_law_1782 rfl (lv_at hl 0 rfl) ?_
    refine lv_iconst (v := 3) hx hb dL_law_1783 (by decide) ?_
    refine lv_iadd hx hb dL_law_1784 ?_
    refine lv_topi (fun y_38 ey_38 => ?_)
    obtain rfl : y_38 = 3 := ey_38.trans (by decide)
    refine va_sld hx hb hX hbl hbA hS (by rw [hL6]; unfold vp_in; decide) dL_law_1785 ?_
    refine lv_aload_n hx hb dL_law_1786 rfl (lv_at hl 3 rfl) ?_
    refine lv_iload_n hx hb dL_law_1787 rfl (lv_at hl 0 rfl) ?_
    refine lv_iconst (v := 4) hx hb dL_law_1788 (by decide) ?_
    refine lv_iadd hx hb dL_law_1789 ?_
    refine lv_topi (fun y_39 ey_39 => ?_)
    obtain rfl : y_39 = 4 := ey_39.trans (by decide)
    refine va_sld hx hb hX hbl hbA hS (by rw [hL6]; unfold vp_in; decide) dL_law_1790 ?_
    refine lv_aload_n hx hb dL_law_1791 rfl (lv_at hl 3 rfl) ?_
    refine lv_iload_n hx hb dL_law_1792 rfl (lv_at hl 0 rfl) ?_
    refine lv_iconst (v := 5) hx hb dL_law_1793 (by decide) ?_
    refine lv_iadd hx hb dL_law_1794 ?_
    refine lv_topi (fun y_40 ey_40 => ?_)
    obtain rfl : y_40 = 5 := ey_40.trans (by decide)
    refine va_sld hx hb hX hbl hbA hS (by rw [hL6]; unfold vp_in; decide) dL_law_1795 ?_
    have hPc := hP.sub (ws' := [(hm_, .inr (12, [.int 0, .int 0, .ref (am 2), .ref (am 3), .ref (am 4), .int 0, .ref (am 6), .ref (am 7), .ref (am 8), .int 0, .ref (am 10), .ref (am 11), .ref (am 12), .ref (am 13), .ref (am 14), .ref (am 15), .int 0, .ref (am 17), .ref (am 18), .ref (am 19), .ref (am 20), .int 0, .ref (am 22), .int 0, .ref (am 24), .ref (am 25), .ref (am 26), .ref (am 27), .ref (am 28), .ref (am 29), .int 0, .ref (am 31), .ref (am 32), .ref (am 33), .int 0, .ref (am 35), .int 0, .ref (am 37), .ref (am 38), .ref (am 39), .ref (am 40), .ref (am 41), .ref (am 42), .ref (am 43), .int 0, .ref (am 45), .ref (am 46), .ref (am 47), .int 0, .ref (am 49), .int 0, .ref (am 51), .int 0, .ref (am 53), .ref (am 54), .int 1, .int 0, .ref (am 57), .long 0, .ref (am 59), .ref (am 60), .long 0, .int 0, .int 0, .int 0, .int 0, .int 0, .int 0, .ref (am 68), .int 0, .int 0, .ref (am 71), .ref (am 72), .ref (am 73), .ref (am 74), .ref (am 75), .ref (am 76), .ref (am 77), .ref (am 78)]))]) [2] rfl
    have hKc := hK.sub (tys' := []) [] rfl
    refine vp_callSi (va_Run.run (va_runV (As := [.int (xs (1 : Int32).toNatClampNeg), .int (xs (2 : Int32).toNatClampNeg), .int (xs (3 : Int32).toNatClampNeg), .int (xs (4 : Int32).toNatClampNeg), .int (xs (5 : Int32).toNatClampNeg)]) (rest := [.int (-2)]) ⟨hx, hb, hml, hown, hts⟩ (rt_X12_fixes l dC dI hm_ am (xs (1 : Int32).toNatClampNeg) (xs (2 : Int32).toNatClampNeg) (xs (3 : Int32).toNatClampNeg) (xs (4 : Int32).toNatClampNeg) (xs (5 : Int32).toNatClampNeg)) (cwV 5 hts gL_law_X12_fixes rfl rfl rfl (by decide +kernel) ⟨Nat.le_of_ble_eq_true rfl, Nat.le_of_ble_eq_true rfl⟩) ⟨fun a U g mk q => by obtain ⟨q0, qP, qK⟩ := q; exact ⟨q0, qP, va_K.moved (u := U) (U := U.calling g mk a) (Vm.Alike.refl U.vm) qK⟩, va_recv hKc hPc (ci := 12) (q0 := 0) rfl rfl, fun U hU hW => ⟨rfl, by rw [hU]; exact hPc, va_K.moved hW.alike hKc⟩⟩ rfl rfl hl.1 rfl (lv_room (Nat.le_of_ble_eq_true rfl)) dL_law_1796 ⟨by decide +kernel, by decide +kernel⟩)) (fun r_41 hr_41 => ?_)
    obtain rfl := hr_41
    refine lv_icmp_eq (tgt := 1837) hx hb dL_law_1799 (by decide) (fun _ => ?_) (fun c9 => absurd (by decide) c9)
    exact law_fin C0 hL6 hS (by decide +kernel) (by decide +kernel) ls (lv_sub hl [3, 2, 1, 0] rfl)
set_option maxHeartbeats 1000000 in
set_option maxRecDepth 100000 in
theorem law_b37 {p : Program} {l : Launch} {e : Env} {s : State} {m : MethodId} {below : List Frame} {meth : Method} {c : Code} {dC : Nat → ClassId} {dI : Nat → Nat → Nat} {b L : Nat} {xs : Nat → Int32} (C0 : lw_At p s m meth c b L xs) (hL6 : L = 6) {hc_ hm_ : Nat} {ad am : Nat → Nat} {H : Heap} {locs : List Loc} (hK : va_K (dC, dI) vwCl [] s) (hP : va_P (dC, dI) vwCl [(hc_, .inr (11, [.ref (ad 0), .ref (ad 1), .ref (ad 2), .ref (ad 3), .ref (ad 4), .ref (ad 5), .ref (ad 6), .ref (ad 7), .ref (ad 8), .int 0, .int 0, .int 0, .int 0])), (hm_, .inr (12, [.int 0, .int 0, .ref (am 2), .ref (am 3), .ref (am 4), .int 0, .ref (am 6), .ref (am 7), .ref (am 8), .int 0, .ref (am 10), .ref (am 11), .ref (am 12), .ref (am 13), .ref (am 14), .ref (am 15), .int 0, .ref (am 17), .ref (am 18), .ref (am 19), .ref (am 20), .int 0, .ref (am 22), .int 0, .ref (am 24), .ref (am 25), .ref (am 26), .ref (am 27), .ref (am 28), .ref (am 29), .int 0, .ref (am 31), .ref (am 32), .ref (am 33), .int 0, .ref (am 35), .int 0, .ref (am 37), .ref (am 38), .ref (am 39), .ref (am 40), .ref (am 41), .ref (am 42), .ref (am 43), .int 0, .ref (am 45), .ref (am 46), .ref (am 47), .int 0, .ref (am 49), .int 0, .ref (am 51), .int 0, .ref (am 53), .ref (am 54), .int 1, .int 0, .ref (am 57), .long 0, .ref (am 59), .ref (am 60), .long 0, .int 0, .int 0, .int 0, .int 0, .int 0, .int 0, .ref (am 68), .int 0, .int 0, .ref (am 71), .ref (am 72), .ref (am 73), .ref (am 74), .ref (am 75), .ref (am 76), .ref (am 77), .ref (am 78)]))] H) (hD : va_D (fun q : Nat => s.heap.size ≤ q) [(hc_, .inr (11, [.ref (ad 0), .ref (ad 1), .ref (ad 2), .ref (ad 3), .ref (ad 4), .ref (ad 5), .ref (ad 6), .ref (ad 7), .ref (ad 8), .int 0, .int 0, .int 0, .int 0])), (hm_, .inr (12, [.int 0, .int 0, .ref (am 2), .ref (am 3), .ref (am 4), .int 0, .ref (am 6), .ref (am 7), .ref (am 8), .int 0, .ref (am 10), .ref (am 11), .ref (am 12), .ref (am 13), .ref (am 14), .ref (am 15), .int 0, .ref (am 17), .ref (am 18), .ref (am 19), .ref (am 20), .int 0, .ref (am 22), .int 0, .ref (am 24), .ref (am 25), .ref (am 26), .ref (am 27), .ref (am 28), .ref (am 29), .int 0, .ref (am 31), .ref (am 32), .ref (am 33), .int 0, .ref (am 35), .int 0, .ref (am 37), .ref (am 38), .ref (am 39), .ref (am 40), .ref (am 41), .ref (am 42), .ref (am 43), .int 0, .ref (am 45), .ref (am 46), .ref (am 47), .int 0, .ref (am 49), .int 0, .ref (am 51), .int 0, .ref (am 53), .ref (am 54), .int 1, .int 0, .ref (am 57), .long 0, .ref (am 59), .ref (am 60), .long 0, .int 0, .int 0, .int 0, .int 0, .int 0, .int 0, .ref (am 68), .int 0, .int 0, .ref (am 71), .ref (am 72), .ref (am 73), .ref (am 74), .ref (am 75), .ref (am 76), .ref (am 77), .ref (am 78)]))]) (hS : va_S (fun q : Nat => s.heap.size ≤ q) s.heap H locs) (ls : Array Slot) (hl : lv_has ls 4 [(3, .int 0), (2, .ref hm_), (1, .ref hc_), (0, .ref b)]) : W p l e room_1 s m #[Value.ref b] below meth c H locs 124 5628 (lw_Z below #[Value.ref b] s) (F0 m 1804 ls []) := by
  obtain ⟨hx, hb, hr, hml, hown, hts, hX, hbl, hlocks, hgv⟩ := id C0
  have hown : s.vm.findClass RL = some m.cls := hown
  have hb : c.code = cL_law := hb
  generalize hAe : (fun q : Nat => s.heap.size ≤ q) = A at hD hS 
  have hA : ∀ q : Nat, s.heap.size ≤ q → A q := fun q h => by rw [← hAe]; exact h
  have hbA : ¬ A b := by rw [← hAe]; exact Nat.not_le.mpr hbl
  refine lv_aload_n hx hb dL_law_1804 rfl (lv_at hl 2 rfl) ?_
  refine lv_aload_n hx hb dL_law_1805 rfl (lv_at hl 3 rfl) ?_
  refine lv_iload_n hx hb dL_law_1806 rfl (lv_at hl 0 rfl) ?_
  refine lv_iconst (v := 1) hx hb dL_law_1807 (by decide) ?_
  refine lv_iadd hx hb dL_law_1808 ?_
  refine lv_topi (fun y_1 ey_1 => ?_)
  obtain rfl : y_1 = 1 := ey_1.trans (by decide)
  refine va_sld hx hb hX hbl hbA hS (by rw [hL6]; unfold vp_in; decide) dL_law_1809 ?_
  refine lv_aload_n hx hb dL_law_1810 rfl (lv_at hl 3 rfl) ?_
  refine lv_iload_n hx hb dL_law_1811 rfl (lv_at hl 0 rfl) ?_
  refine lv_iconst (v := 2) hx hb dL_law_1812 (by decide) ?_
  refine lv_iadd hx hb dL_law_1813 ?_
  refine lv_topi (fun y_2 ey_2 => ?_)
  obtain rfl : y_2 = 2 := ey_2.trans (by decide)
  refine va_sld hx hb hX hbl hbA hS (by rw [hL6]; unfold vp_in; decide) dL_law_1814 ?_
  have hPc := hP.sub (ws' := [(hc_, .inr (11, [.ref (ad 0), .ref (ad 1), .ref (ad 2), .ref (ad 3), .ref (ad 4), .ref (ad 5), .ref (ad 6), .ref (ad 7), .ref (ad 8), .int 0, .int 0, .int 0, .int 0]))]) [0] rfl
  have hKc := hK.sub (tys' := []) [] rfl
  refine vp_callSi (va_Run.run (va_runV (As := [.int (xs (1 : Int32).toNatClampNeg), .int (xs (2 : Int32).toNatClampNeg)]) (rest := []) ⟨hx, hb, hml, hown, hts⟩ (rt_X11_taken l dC dI hc_ ad (xs (1 : Int32).toNatClampNeg) (xs (2 : Int32).toNatClampNeg)) (cwV 2 hts gL_law_X11_taken rfl rfl rfl (by decide +kernel) ⟨Nat.le_of_ble_eq_true rfl, Nat.le_of_ble_eq_true rfl⟩) ⟨fun a U g mk q => by obtain ⟨q0, qP, qK⟩ := q; exact ⟨q0, qP, va_K.moved (u := U) (U := U.calling g mk a) (Vm.Alike.refl U.vm) qK⟩, va_recv hKc hPc (ci := 11) (q0 := 0) rfl rfl, fun U hU hW => ⟨rfl, by rw [hU]; exact hPc, va_K.moved hW.alike hKc⟩⟩ rfl rfl hl.1 rfl (lv_room (Nat.le_of_ble_eq_true rfl)) dL_law_1815 ⟨by decide +kernel, by decide +kernel⟩)) (fun r_3 hr_3 => ?_)
  refine lv_aload_n hx hb dL_law_1818 rfl (lv_at hl 1 rfl) ?_
  refine lv_aload_n hx hb dL_law_1819 rfl (lv_at hl 3 rfl) ?_
  refine lv_iload_n hx hb dL_law_1820 rfl (lv_at hl 0 rfl) ?_
  refine lv_iconst (v := 1) hx hb dL_law_1821 (by decide) ?_
  refine lv_iadd hx hb dL_law_1822 ?_
  refine lv_topi (fun y_4 ey_4 => ?_)
  obtain rfl : y_4 = 1 := ey_4.trans (by decide)
  refine va_sld hx hb hX hbl hbA hS (by rw [hL6]; unfold vp_in; decide) dL_law_1823 ?_
  refine lv_aload_n hx hb dL_law_1824 rfl (lv_at hl 3 rfl) ?_
  refine lv_iload_n hx hb dL_law_1825 rfl (lv_at hl 0 rfl) ?_
  refine lv_iconst (v := 2) hx hb dL_law_1826 (by decide) ?_
  refine lv_iadd hx hb dL_law_1827 ?_
  refine lv_topi (fun y_5 ey_5 => ?_)
  obtain rfl : y_5 = 2 := ey_5.trans (by decide)
  refine va_sld hx hb hX hbl hbA hS (by rw [hL6]; unfold vp_in; decide) dL_law_1828 ?_
  have hPc := hP.sub (ws' := [(hm_, .inr (12, [.int 0, .int 0, .ref (am 2), .ref (am 3), .ref (am 4), .int 0, .ref (am 6), .ref (am 7), .ref (am 8), .int 0, .ref (am 10), .ref (am 11), .ref (am 12), .ref (am 13), .ref (am 14), .ref (am 15), .int 0, .ref (am 17), .ref (am 18), .ref (am 19), .ref (am 20), .int 0, .ref (am 22), .int 0, .ref (am 24), .ref (am 25), .ref (am 26), .ref (am 27), .ref (am 28), .ref (am 29), .int 0, .ref (am 31), .ref (am 32), .ref (am 33), .int 0, .ref (am 35), .int 0, .ref (am 37), .ref (am 38), .ref (am 39), .ref (am 40), .ref (am 41), .ref (am 42), .ref (am 43), .int 0, .ref (am 45), .ref (am 46), .ref (am 47), .int 0, .ref (am 49), .int 0, .ref (am 51), .int 0, .ref (am 53), .ref (am 54), .int 1, .int 0, .ref (am 57), .long 0, .ref (am 59), .ref (am 60), .long 0, .int 0, .int 0, .int 0, .int 0, .int 0, .int 0, .ref (am 68), .int 0, .int 0, .ref (am 71), .ref (am 72), .ref (am 73), .ref (am 74), .ref (am 75), .ref (am 76), .ref (am 77), .ref (am 78)]))]) [1] rfl
  have hKc := hK.sub (tys' := []) [] rfl
  refine vp_callSi (va_Run.run (va_runV (As := [.int (xs (1 : Int32).toNatClampNeg), .int (xs (2 : Int32).toNatClampNeg)]) (rest := [.int r_3]) ⟨hx, hb, hml, hown, hts⟩ (rt_X12_taken l dC dI hm_ am (xs (1 : Int32).toNatClampNeg) (xs (2 : Int32).toNatClampNeg)) (cwV 2 hts gL_law_X12_taken rfl rfl rfl (by decide +kernel) ⟨Nat.le_of_ble_eq_true rfl, Nat.le_of_ble_eq_true rfl⟩) ⟨fun a U g mk q => by obtain ⟨q0, qP, qK⟩ := q; exact ⟨q0, qP, va_K.moved (u := U) (U := U.calling g mk a) (Vm.Alike.refl U.vm) qK⟩, va_recv hKc hPc (ci := 12) (q0 := 0) rfl rfl, fun U hU hW => ⟨rfl, by rw [hU]; exact hPc, va_K.moved hW.alike hKc⟩⟩ rfl rfl hl.1 rfl (lv_room (Nat.le_of_ble_eq_true rfl)) dL_law_1829 ⟨by decide +kernel, by decide +kernel⟩)) (fun r_6 hr_6 => ?_)
  have hq : (r_3 : Int32) = r_6 := by
    rcases hr_3 with ⟨a0, e0⟩ | ⟨a0, e0⟩ <;> rcases hr_6 with ⟨a1, e1⟩ | ⟨a1, e1⟩ <;> first | (rw [e0, e1]; done) | (exfalso; (try simp only [fa_lt, fa_le, fa_eq, fa_lt64, fa_le64, fa_eq64, Int32.reduceToInt, Int64.reduceToInt, zi_ite] at a0); (try simp only [fa_lt, fa_le, fa_eq, fa_lt64, fa_le64, fa_eq64, Int32.reduceToInt, Int64.reduceToInt, zi_ite] at a1); omega)
  refine lv_icmp_eq (tgt := 1837) hx hb dL_law_1832 (by decide) (fun _ => ?_) (fun c9 => absurd hq c9)
  exact law_fin C0 hL6 hS (by decide +kernel) (by decide +kernel) ls (lv_sub hl [3, 2, 1, 0] rfl)

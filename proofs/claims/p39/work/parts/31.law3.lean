theorem ck_L_law_89_31law3 : ((cL_law.data.toList).drop 1424).take 16 = [43, 182, 0, 138, 87, 44, 182, 0, 141, 87, 167, 1, 144, 43, 42, 29] := by decide +kernel
theorem ck_L_law_90_31law3 : ((cL_law.data.toList).drop 1440).take 16 = [4, 96, 46, 42, 29, 5, 96, 46, 182, 0, 142, 87, 44, 42, 29, 4] := by decide +kernel
theorem ck_L_law_91_31law3 : ((cL_law.data.toList).drop 1456).take 16 = [96, 46, 42, 29, 5, 96, 46, 182, 0, 145, 87, 167, 1, 111, 43, 42] := by decide +kernel
theorem ck_L_law_92_31law3 : ((cL_law.data.toList).drop 1472).take 16 = [29, 4, 96, 46, 133, 16, 32, 121, 42, 29, 5, 96, 46, 133, 20, 0] := by decide +kernel
theorem ck_L_law_93_31law3 : ((cL_law.data.toList).drop 1488).take 16 = [42, 127, 129, 182, 0, 146, 87, 44, 42, 29, 4, 96, 46, 133, 16, 32] := by decide +kernel
theorem ck_L_law_94_31law3 : ((cL_law.data.toList).drop 1504).take 16 = [121, 42, 29, 5, 96, 46, 133, 20, 0, 42, 127, 129, 182, 0, 149, 87] := by decide +kernel
theorem ck_L_law_95_31law3 : ((cL_law.data.toList).drop 1520).take 16 = [167, 1, 58, 43, 42, 29, 4, 96, 46, 42, 29, 5, 96, 46, 42, 29] := by decide +kernel
theorem ck_L_law_96_31law3 : ((cL_law.data.toList).drop 1536).take 16 = [6, 96, 46, 182, 0, 150, 87, 44, 42, 29, 4, 96, 46, 42, 29, 5] := by decide +kernel
theorem ck_L_law_97_31law3 : ((cL_law.data.toList).drop 1552).take 16 = [96, 46, 42, 29, 6, 96, 46, 182, 0, 153, 87, 167, 1, 15, 43, 42] := by decide +kernel
theorem ck_L_law_98_31law3 : ((cL_law.data.toList).drop 1568).take 16 = [29, 4, 96, 46, 182, 0, 154, 87, 44, 42, 29, 4, 96, 46, 182, 0] := by decide +kernel
theorem ck_L_law_99_31law3 : ((cL_law.data.toList).drop 1584).take 16 = [157, 87, 167, 0, 248, 43, 42, 29, 4, 96, 46, 42, 29, 5, 96, 46] := by decide +kernel
theorem ck_L_law_100_31law3 : ((cL_law.data.toList).drop 1600).take 16 = [42, 29, 6, 96, 46, 182, 0, 158, 87, 44, 42, 29, 4, 96, 46, 42] := by decide +kernel
theorem ck_L_law_101_31law3 : ((cL_law.data.toList).drop 1616).take 16 = [29, 5, 96, 46, 42, 29, 6, 96, 46, 182, 0, 161, 87, 167, 0, 205] := by decide +kernel
theorem ck_L_law_102_31law3 : ((cL_law.data.toList).drop 1632).take 16 = [43, 42, 29, 4, 96, 46, 42, 29, 5, 96, 46, 42, 29, 6, 96, 46] := by decide +kernel
theorem ck_L_law_103_31law3 : ((cL_law.data.toList).drop 1648).take 16 = [182, 0, 162, 87, 44, 42, 29, 4, 96, 46, 42, 29, 5, 96, 46, 42] := by decide +kernel
theorem ck_L_law_104_31law3 : ((cL_law.data.toList).drop 1664).take 16 = [29, 6, 96, 46, 182, 0, 165, 87, 167, 0, 162, 43, 42, 29, 4, 96] := by decide +kernel
theorem ck_L_law_105_31law3 : ((cL_law.data.toList).drop 1680).take 16 = [46, 42, 29, 5, 96, 46, 42, 29, 6, 96, 46, 42, 29, 7, 96, 46] := by decide +kernel
theorem ck_L_law_106_31law3 : ((cL_law.data.toList).drop 1696).take 16 = [42, 29, 8, 96, 46, 182, 0, 166, 87, 44, 42, 29, 4, 96, 46, 42] := by decide +kernel
theorem ck_L_law_107_31law3 : ((cL_law.data.toList).drop 1712).take 16 = [29, 5, 96, 46, 42, 29, 6, 96, 46, 42, 29, 7, 96, 46, 42, 29] := by decide +kernel
theorem ck_L_law_108_31law3 : ((cL_law.data.toList).drop 1728).take 16 = [8, 96, 46, 182, 0, 169, 87, 167, 0, 99, 43, 42, 29, 4, 96, 46] := by decide +kernel
theorem ck_L_law_109_31law3 : ((cL_law.data.toList).drop 1744).take 16 = [42, 29, 5, 96, 46, 42, 29, 6, 96, 46, 42, 29, 7, 96, 46, 42] := by decide +kernel
theorem ck_L_law_110_31law3 : ((cL_law.data.toList).drop 1760).take 16 = [29, 8, 96, 46, 182, 0, 170, 87, 44, 42, 29, 4, 96, 46, 42, 29] := by decide +kernel
theorem ck_L_law_111_31law3 : ((cL_law.data.toList).drop 1776).take 16 = [5, 96, 46, 42, 29, 6, 96, 46, 42, 29, 7, 96, 46, 42, 29, 8] := by decide +kernel
theorem ck_L_law_112_31law3 : ((cL_law.data.toList).drop 1792).take 16 = [96, 46, 182, 0, 173, 87, 167, 0, 36, 43, 42, 29, 4, 96, 46, 42] := by decide +kernel
theorem ck_L_law_113_31law3 : ((cL_law.data.toList).drop 1808).take 16 = [29, 5, 96, 46, 182, 0, 174, 44, 42, 29, 4, 96, 46, 42, 29, 5] := by decide +kernel
theorem ck_L_law_114_31law3 : ((cL_law.data.toList).drop 1824).take 16 = [96, 46, 182, 0, 177, 159, 0, 5, 3, 172, 132, 3, 6, 167, 248, 229] := by decide +kernel
theorem dL_law_1437 : decode cL_law 1437 = .ok (.aload_n 1, 1) := dk_0 (dk_k43 1437) (dk_by (j := 13) rfl ck_L_law_89_31law3 rfl rfl rfl)
theorem dL_law_1438 : decode cL_law 1438 = .ok (.aload_n 0, 1) := dk_0 (dk_k42 1438) (dk_by (j := 14) rfl ck_L_law_89_31law3 rfl rfl rfl)
theorem dL_law_1439 : decode cL_law 1439 = .ok (.iload_n 3, 1) := dk_0 (dk_k29 1439) (dk_by (j := 15) rfl ck_L_law_89_31law3 rfl rfl rfl)
theorem dL_law_1440 : decode cL_law 1440 = .ok (.iconst 1, 1) := dk_0 (dk_k4 1440) (dk_by (j := 0) rfl ck_L_law_90_31law3 rfl rfl rfl)
theorem dL_law_1441 : decode cL_law 1441 = .ok (.iadd, 1) := dk_0 (dk_k96 1441) (dk_by (j := 1) rfl ck_L_law_90_31law3 rfl rfl rfl)
theorem dL_law_1442 : decode cL_law 1442 = .ok (.iaload, 1) := dk_0 (dk_k46 1442) (dk_by (j := 2) rfl ck_L_law_90_31law3 rfl rfl rfl)
theorem dL_law_1443 : decode cL_law 1443 = .ok (.aload_n 0, 1) := dk_0 (dk_k42 1443) (dk_by (j := 3) rfl ck_L_law_90_31law3 rfl rfl rfl)
theorem dL_law_1444 : decode cL_law 1444 = .ok (.iload_n 3, 1) := dk_0 (dk_k29 1444) (dk_by (j := 4) rfl ck_L_law_90_31law3 rfl rfl rfl)
theorem dL_law_1445 : decode cL_law 1445 = .ok (.iconst 2, 1) := dk_0 (dk_k5 1445) (dk_by (j := 5) rfl ck_L_law_90_31law3 rfl rfl rfl)
theorem dL_law_1446 : decode cL_law 1446 = .ok (.iadd, 1) := dk_0 (dk_k96 1446) (dk_by (j := 6) rfl ck_L_law_90_31law3 rfl rfl rfl)
theorem dL_law_1447 : decode cL_law 1447 = .ok (.iaload, 1) := dk_0 (dk_k46 1447) (dk_by (j := 7) rfl ck_L_law_90_31law3 rfl rfl rfl)
theorem gL_law_X11_clash : GoodIn lw_tbl (wsV RL 142 RX11 yX11_clash wsX11_clash) := ru_gL (ru_gV tw_5_22 tw_5_23 tw_5_24 tw_1_1 mT_X11_clash)
theorem dL_law_1448 : decode cL_law 1448 = .ok (.invokevirtual 142, 3) := dk_2 (dk_k182 1448) (dk_by (j := 8) rfl ck_L_law_90_31law3 rfl rfl rfl) (dk_by (j := 9) rfl ck_L_law_90_31law3 rfl rfl rfl) (dk_by (j := 10) rfl ck_L_law_90_31law3 rfl rfl rfl) (by decide)
theorem dL_law_1451 : decode cL_law 1451 = .ok (.pop, 1) := dk_0 (dk_k87 1451) (dk_by (j := 11) rfl ck_L_law_90_31law3 rfl rfl rfl)
theorem dL_law_1452 : decode cL_law 1452 = .ok (.aload_n 2, 1) := dk_0 (dk_k44 1452) (dk_by (j := 12) rfl ck_L_law_90_31law3 rfl rfl rfl)
theorem dL_law_1453 : decode cL_law 1453 = .ok (.aload_n 0, 1) := dk_0 (dk_k42 1453) (dk_by (j := 13) rfl ck_L_law_90_31law3 rfl rfl rfl)
theorem dL_law_1454 : decode cL_law 1454 = .ok (.iload_n 3, 1) := dk_0 (dk_k29 1454) (dk_by (j := 14) rfl ck_L_law_90_31law3 rfl rfl rfl)
theorem dL_law_1455 : decode cL_law 1455 = .ok (.iconst 1, 1) := dk_0 (dk_k4 1455) (dk_by (j := 15) rfl ck_L_law_90_31law3 rfl rfl rfl)
theorem dL_law_1456 : decode cL_law 1456 = .ok (.iadd, 1) := dk_0 (dk_k96 1456) (dk_by (j := 0) rfl ck_L_law_91_31law3 rfl rfl rfl)
theorem dL_law_1457 : decode cL_law 1457 = .ok (.iaload, 1) := dk_0 (dk_k46 1457) (dk_by (j := 1) rfl ck_L_law_91_31law3 rfl rfl rfl)
theorem dL_law_1458 : decode cL_law 1458 = .ok (.aload_n 0, 1) := dk_0 (dk_k42 1458) (dk_by (j := 2) rfl ck_L_law_91_31law3 rfl rfl rfl)
theorem dL_law_1459 : decode cL_law 1459 = .ok (.iload_n 3, 1) := dk_0 (dk_k29 1459) (dk_by (j := 3) rfl ck_L_law_91_31law3 rfl rfl rfl)
theorem dL_law_1460 : decode cL_law 1460 = .ok (.iconst 2, 1) := dk_0 (dk_k5 1460) (dk_by (j := 4) rfl ck_L_law_91_31law3 rfl rfl rfl)
theorem dL_law_1461 : decode cL_law 1461 = .ok (.iadd, 1) := dk_0 (dk_k96 1461) (dk_by (j := 5) rfl ck_L_law_91_31law3 rfl rfl rfl)
theorem dL_law_1462 : decode cL_law 1462 = .ok (.iaload, 1) := dk_0 (dk_k46 1462) (dk_by (j := 6) rfl ck_L_law_91_31law3 rfl rfl rfl)
theorem gL_law_X12_clash : GoodIn lw_tbl (wsV RL 145 RX12 yX12_clash wsX12_clash) := ru_gL (ru_gV tw_7_174 tw_7_175 tw_7_176 tw_1_12 mT_X12_clash)
theorem dL_law_1463 : decode cL_law 1463 = .ok (.invokevirtual 145, 3) := dk_2 (dk_k182 1463) (dk_by (j := 7) rfl ck_L_law_91_31law3 rfl rfl rfl) (dk_by (j := 8) rfl ck_L_law_91_31law3 rfl rfl rfl) (dk_by (j := 9) rfl ck_L_law_91_31law3 rfl rfl rfl) (by decide)
theorem dL_law_1466 : decode cL_law 1466 = .ok (.pop, 1) := dk_0 (dk_k87 1466) (dk_by (j := 10) rfl ck_L_law_91_31law3 rfl rfl rfl)
theorem dL_law_1467 : decode cL_law 1467 = .ok (.goto 367, 3) := dk_s (dk_k167 1467) (dk_by (j := 11) rfl ck_L_law_91_31law3 rfl rfl rfl) (dk_by (j := 12) rfl ck_L_law_91_31law3 rfl rfl rfl) (dk_by (j := 13) rfl ck_L_law_91_31law3 rfl rfl rfl) (by decide)
theorem dL_law_1470 : decode cL_law 1470 = .ok (.aload_n 1, 1) := dk_0 (dk_k43 1470) (dk_by (j := 14) rfl ck_L_law_91_31law3 rfl rfl rfl)
theorem dL_law_1471 : decode cL_law 1471 = .ok (.aload_n 0, 1) := dk_0 (dk_k42 1471) (dk_by (j := 15) rfl ck_L_law_91_31law3 rfl rfl rfl)
theorem dL_law_1472 : decode cL_law 1472 = .ok (.iload_n 3, 1) := dk_0 (dk_k29 1472) (dk_by (j := 0) rfl ck_L_law_92_31law3 rfl rfl rfl)
theorem dL_law_1473 : decode cL_law 1473 = .ok (.iconst 1, 1) := dk_0 (dk_k4 1473) (dk_by (j := 1) rfl ck_L_law_92_31law3 rfl rfl rfl)
theorem dL_law_1474 : decode cL_law 1474 = .ok (.iadd, 1) := dk_0 (dk_k96 1474) (dk_by (j := 2) rfl ck_L_law_92_31law3 rfl rfl rfl)
theorem dL_law_1475 : decode cL_law 1475 = .ok (.iaload, 1) := dk_0 (dk_k46 1475) (dk_by (j := 3) rfl ck_L_law_92_31law3 rfl rfl rfl)
theorem dL_law_1476 : decode cL_law 1476 = .ok (.i2l, 1) := dk_0 (dk_k133 1476) (dk_by (j := 4) rfl ck_L_law_92_31law3 rfl rfl rfl)
theorem dL_law_1477 : decode cL_law 1477 = .ok (.bipush 32, 2) := dk_1 (dk_k16 1477) (dk_by (j := 5) rfl ck_L_law_92_31law3 rfl rfl rfl) (dk_by (j := 6) rfl ck_L_law_92_31law3 rfl rfl rfl) (by decide)
theorem dL_law_1479 : decode cL_law 1479 = .ok (.lshl, 1) := dk_0 (dk_k121 1479) (dk_by (j := 7) rfl ck_L_law_92_31law3 rfl rfl rfl)
theorem dL_law_1480 : decode cL_law 1480 = .ok (.aload_n 0, 1) := dk_0 (dk_k42 1480) (dk_by (j := 8) rfl ck_L_law_92_31law3 rfl rfl rfl)
theorem dL_law_1481 : decode cL_law 1481 = .ok (.iload_n 3, 1) := dk_0 (dk_k29 1481) (dk_by (j := 9) rfl ck_L_law_92_31law3 rfl rfl rfl)
theorem dL_law_1482 : decode cL_law 1482 = .ok (.iconst 2, 1) := dk_0 (dk_k5 1482) (dk_by (j := 10) rfl ck_L_law_92_31law3 rfl rfl rfl)
theorem dL_law_1483 : decode cL_law 1483 = .ok (.iadd, 1) := dk_0 (dk_k96 1483) (dk_by (j := 11) rfl ck_L_law_92_31law3 rfl rfl rfl)
theorem dL_law_1484 : decode cL_law 1484 = .ok (.iaload, 1) := dk_0 (dk_k46 1484) (dk_by (j := 12) rfl ck_L_law_92_31law3 rfl rfl rfl)
theorem dL_law_1485 : decode cL_law 1485 = .ok (.i2l, 1) := dk_0 (dk_k133 1485) (dk_by (j := 13) rfl ck_L_law_92_31law3 rfl rfl rfl)
theorem dL_law_1486 : decode cL_law 1486 = .ok (.ldc2_w 42, 3) := dk_2 (dk_k20 1486) (dk_by (j := 14) rfl ck_L_law_92_31law3 rfl rfl rfl) (dk_by (j := 15) rfl ck_L_law_92_31law3 rfl rfl rfl) (dk_by (j := 0) rfl ck_L_law_93_31law3 rfl rfl rfl) (by decide)
theorem dL_law_1489 : decode cL_law 1489 = .ok (.land, 1) := dk_0 (dk_k127 1489) (dk_by (j := 1) rfl ck_L_law_93_31law3 rfl rfl rfl)
theorem dL_law_1490 : decode cL_law 1490 = .ok (.lor, 1) := dk_0 (dk_k129 1490) (dk_by (j := 2) rfl ck_L_law_93_31law3 rfl rfl rfl)
theorem gL_law_X11_row : GoodIn lw_tbl (wsV RL 146 RX11 yX11_row wsX11_row) := ru_gL (ru_gV tw_5_31 tw_5_32 tw_5_33 tw_1_1 mT_X11_row)
theorem dL_law_1491 : decode cL_law 1491 = .ok (.invokevirtual 146, 3) := dk_2 (dk_k182 1491) (dk_by (j := 3) rfl ck_L_law_93_31law3 rfl rfl rfl) (dk_by (j := 4) rfl ck_L_law_93_31law3 rfl rfl rfl) (dk_by (j := 5) rfl ck_L_law_93_31law3 rfl rfl rfl) (by decide)
theorem dL_law_1494 : decode cL_law 1494 = .ok (.pop, 1) := dk_0 (dk_k87 1494) (dk_by (j := 6) rfl ck_L_law_93_31law3 rfl rfl rfl)
theorem dL_law_1495 : decode cL_law 1495 = .ok (.aload_n 2, 1) := dk_0 (dk_k44 1495) (dk_by (j := 7) rfl ck_L_law_93_31law3 rfl rfl rfl)
theorem dL_law_1496 : decode cL_law 1496 = .ok (.aload_n 0, 1) := dk_0 (dk_k42 1496) (dk_by (j := 8) rfl ck_L_law_93_31law3 rfl rfl rfl)
theorem dL_law_1497 : decode cL_law 1497 = .ok (.iload_n 3, 1) := dk_0 (dk_k29 1497) (dk_by (j := 9) rfl ck_L_law_93_31law3 rfl rfl rfl)
theorem dL_law_1498 : decode cL_law 1498 = .ok (.iconst 1, 1) := dk_0 (dk_k4 1498) (dk_by (j := 10) rfl ck_L_law_93_31law3 rfl rfl rfl)
theorem dL_law_1499 : decode cL_law 1499 = .ok (.iadd, 1) := dk_0 (dk_k96 1499) (dk_by (j := 11) rfl ck_L_law_93_31law3 rfl rfl rfl)
theorem dL_law_1500 : decode cL_law 1500 = .ok (.iaload, 1) := dk_0 (dk_k46 1500) (dk_by (j := 12) rfl ck_L_law_93_31law3 rfl rfl rfl)
theorem dL_law_1501 : decode cL_law 1501 = .ok (.i2l, 1) := dk_0 (dk_k133 1501) (dk_by (j := 13) rfl ck_L_law_93_31law3 rfl rfl rfl)
theorem dL_law_1502 : decode cL_law 1502 = .ok (.bipush 32, 2) := dk_1 (dk_k16 1502) (dk_by (j := 14) rfl ck_L_law_93_31law3 rfl rfl rfl) (dk_by (j := 15) rfl ck_L_law_93_31law3 rfl rfl rfl) (by decide)
theorem dL_law_1504 : decode cL_law 1504 = .ok (.lshl, 1) := dk_0 (dk_k121 1504) (dk_by (j := 0) rfl ck_L_law_94_31law3 rfl rfl rfl)
theorem dL_law_1505 : decode cL_law 1505 = .ok (.aload_n 0, 1) := dk_0 (dk_k42 1505) (dk_by (j := 1) rfl ck_L_law_94_31law3 rfl rfl rfl)
theorem dL_law_1506 : decode cL_law 1506 = .ok (.iload_n 3, 1) := dk_0 (dk_k29 1506) (dk_by (j := 2) rfl ck_L_law_94_31law3 rfl rfl rfl)
theorem dL_law_1507 : decode cL_law 1507 = .ok (.iconst 2, 1) := dk_0 (dk_k5 1507) (dk_by (j := 3) rfl ck_L_law_94_31law3 rfl rfl rfl)
theorem dL_law_1508 : decode cL_law 1508 = .ok (.iadd, 1) := dk_0 (dk_k96 1508) (dk_by (j := 4) rfl ck_L_law_94_31law3 rfl rfl rfl)
theorem dL_law_1509 : decode cL_law 1509 = .ok (.iaload, 1) := dk_0 (dk_k46 1509) (dk_by (j := 5) rfl ck_L_law_94_31law3 rfl rfl rfl)
theorem dL_law_1510 : decode cL_law 1510 = .ok (.i2l, 1) := dk_0 (dk_k133 1510) (dk_by (j := 6) rfl ck_L_law_94_31law3 rfl rfl rfl)
theorem dL_law_1511 : decode cL_law 1511 = .ok (.ldc2_w 42, 3) := dk_2 (dk_k20 1511) (dk_by (j := 7) rfl ck_L_law_94_31law3 rfl rfl rfl) (dk_by (j := 8) rfl ck_L_law_94_31law3 rfl rfl rfl) (dk_by (j := 9) rfl ck_L_law_94_31law3 rfl rfl rfl) (by decide)
theorem dL_law_1514 : decode cL_law 1514 = .ok (.land, 1) := dk_0 (dk_k127 1514) (dk_by (j := 10) rfl ck_L_law_94_31law3 rfl rfl rfl)
theorem dL_law_1515 : decode cL_law 1515 = .ok (.lor, 1) := dk_0 (dk_k129 1515) (dk_by (j := 11) rfl ck_L_law_94_31law3 rfl rfl rfl)
theorem gL_law_X12_row : GoodIn lw_tbl (wsV RL 149 RX12 yX12_row wsX12_row) := ru_gL (ru_gV tw_7_182 tw_7_183 tw_7_184 tw_1_12 mT_X12_row)
theorem dL_law_1516 : decode cL_law 1516 = .ok (.invokevirtual 149, 3) := dk_2 (dk_k182 1516) (dk_by (j := 12) rfl ck_L_law_94_31law3 rfl rfl rfl) (dk_by (j := 13) rfl ck_L_law_94_31law3 rfl rfl rfl) (dk_by (j := 14) rfl ck_L_law_94_31law3 rfl rfl rfl) (by decide)
theorem dL_law_1519 : decode cL_law 1519 = .ok (.pop, 1) := dk_0 (dk_k87 1519) (dk_by (j := 15) rfl ck_L_law_94_31law3 rfl rfl rfl)
theorem dL_law_1520 : decode cL_law 1520 = .ok (.goto 314, 3) := dk_s (dk_k167 1520) (dk_by (j := 0) rfl ck_L_law_95_31law3 rfl rfl rfl) (dk_by (j := 1) rfl ck_L_law_95_31law3 rfl rfl rfl) (dk_by (j := 2) rfl ck_L_law_95_31law3 rfl rfl rfl) (by decide)
theorem dL_law_1523 : decode cL_law 1523 = .ok (.aload_n 1, 1) := dk_0 (dk_k43 1523) (dk_by (j := 3) rfl ck_L_law_95_31law3 rfl rfl rfl)
theorem dL_law_1524 : decode cL_law 1524 = .ok (.aload_n 0, 1) := dk_0 (dk_k42 1524) (dk_by (j := 4) rfl ck_L_law_95_31law3 rfl rfl rfl)
theorem dL_law_1525 : decode cL_law 1525 = .ok (.iload_n 3, 1) := dk_0 (dk_k29 1525) (dk_by (j := 5) rfl ck_L_law_95_31law3 rfl rfl rfl)
theorem dL_law_1526 : decode cL_law 1526 = .ok (.iconst 1, 1) := dk_0 (dk_k4 1526) (dk_by (j := 6) rfl ck_L_law_95_31law3 rfl rfl rfl)
theorem dL_law_1527 : decode cL_law 1527 = .ok (.iadd, 1) := dk_0 (dk_k96 1527) (dk_by (j := 7) rfl ck_L_law_95_31law3 rfl rfl rfl)
theorem dL_law_1528 : decode cL_law 1528 = .ok (.iaload, 1) := dk_0 (dk_k46 1528) (dk_by (j := 8) rfl ck_L_law_95_31law3 rfl rfl rfl)
theorem dL_law_1529 : decode cL_law 1529 = .ok (.aload_n 0, 1) := dk_0 (dk_k42 1529) (dk_by (j := 9) rfl ck_L_law_95_31law3 rfl rfl rfl)
theorem dL_law_1530 : decode cL_law 1530 = .ok (.iload_n 3, 1) := dk_0 (dk_k29 1530) (dk_by (j := 10) rfl ck_L_law_95_31law3 rfl rfl rfl)
theorem dL_law_1531 : decode cL_law 1531 = .ok (.iconst 2, 1) := dk_0 (dk_k5 1531) (dk_by (j := 11) rfl ck_L_law_95_31law3 rfl rfl rfl)
theorem dL_law_1532 : decode cL_law 1532 = .ok (.iadd, 1) := dk_0 (dk_k96 1532) (dk_by (j := 12) rfl ck_L_law_95_31law3 rfl rfl rfl)
theorem dL_law_1533 : decode cL_law 1533 = .ok (.iaload, 1) := dk_0 (dk_k46 1533) (dk_by (j := 13) rfl ck_L_law_95_31law3 rfl rfl rfl)
theorem dL_law_1534 : decode cL_law 1534 = .ok (.aload_n 0, 1) := dk_0 (dk_k42 1534) (dk_by (j := 14) rfl ck_L_law_95_31law3 rfl rfl rfl)
theorem dL_law_1535 : decode cL_law 1535 = .ok (.iload_n 3, 1) := dk_0 (dk_k29 1535) (dk_by (j := 15) rfl ck_L_law_95_31law3 rfl rfl rfl)
theorem dL_law_1536 : decode cL_law 1536 = .ok (.iconst 3, 1) := dk_0 (dk_k6 1536) (dk_by (j := 0) rfl ck_L_law_96_31law3 rfl rfl rfl)
theorem dL_law_1537 : decode cL_law 1537 = .ok (.iadd, 1) := dk_0 (dk_k96 1537) (dk_by (j := 1) rfl ck_L_law_96_31law3 rfl rfl rfl)
theorem dL_law_1538 : decode cL_law 1538 = .ok (.iaload, 1) := dk_0 (dk_k46 1538) (dk_by (j := 2) rfl ck_L_law_96_31law3 rfl rfl rfl)
theorem gL_law_X11_days : GoodIn lw_tbl (wsV RL 150 RX11 yX11_days wsX11_days) := ru_gL (ru_gV tw_5_41 tw_5_42 tw_5_43 tw_1_1 mT_X11_days)
theorem dL_law_1539 : decode cL_law 1539 = .ok (.invokevirtual 150, 3) := dk_2 (dk_k182 1539) (dk_by (j := 3) rfl ck_L_law_96_31law3 rfl rfl rfl) (dk_by (j := 4) rfl ck_L_law_96_31law3 rfl rfl rfl) (dk_by (j := 5) rfl ck_L_law_96_31law3 rfl rfl rfl) (by decide)
theorem dL_law_1542 : decode cL_law 1542 = .ok (.pop, 1) := dk_0 (dk_k87 1542) (dk_by (j := 6) rfl ck_L_law_96_31law3 rfl rfl rfl)
theorem dL_law_1543 : decode cL_law 1543 = .ok (.aload_n 2, 1) := dk_0 (dk_k44 1543) (dk_by (j := 7) rfl ck_L_law_96_31law3 rfl rfl rfl)
theorem dL_law_1544 : decode cL_law 1544 = .ok (.aload_n 0, 1) := dk_0 (dk_k42 1544) (dk_by (j := 8) rfl ck_L_law_96_31law3 rfl rfl rfl)
theorem dL_law_1545 : decode cL_law 1545 = .ok (.iload_n 3, 1) := dk_0 (dk_k29 1545) (dk_by (j := 9) rfl ck_L_law_96_31law3 rfl rfl rfl)
theorem dL_law_1546 : decode cL_law 1546 = .ok (.iconst 1, 1) := dk_0 (dk_k4 1546) (dk_by (j := 10) rfl ck_L_law_96_31law3 rfl rfl rfl)
theorem dL_law_1547 : decode cL_law 1547 = .ok (.iadd, 1) := dk_0 (dk_k96 1547) (dk_by (j := 11) rfl ck_L_law_96_31law3 rfl rfl rfl)
theorem dL_law_1548 : decode cL_law 1548 = .ok (.iaload, 1) := dk_0 (dk_k46 1548) (dk_by (j := 12) rfl ck_L_law_96_31law3 rfl rfl rfl)
theorem dL_law_1549 : decode cL_law 1549 = .ok (.aload_n 0, 1) := dk_0 (dk_k42 1549) (dk_by (j := 13) rfl ck_L_law_96_31law3 rfl rfl rfl)
theorem dL_law_1550 : decode cL_law 1550 = .ok (.iload_n 3, 1) := dk_0 (dk_k29 1550) (dk_by (j := 14) rfl ck_L_law_96_31law3 rfl rfl rfl)
theorem dL_law_1551 : decode cL_law 1551 = .ok (.iconst 2, 1) := dk_0 (dk_k5 1551) (dk_by (j := 15) rfl ck_L_law_96_31law3 rfl rfl rfl)
theorem dL_law_1552 : decode cL_law 1552 = .ok (.iadd, 1) := dk_0 (dk_k96 1552) (dk_by (j := 0) rfl ck_L_law_97_31law3 rfl rfl rfl)
theorem dL_law_1553 : decode cL_law 1553 = .ok (.iaload, 1) := dk_0 (dk_k46 1553) (dk_by (j := 1) rfl ck_L_law_97_31law3 rfl rfl rfl)
theorem dL_law_1554 : decode cL_law 1554 = .ok (.aload_n 0, 1) := dk_0 (dk_k42 1554) (dk_by (j := 2) rfl ck_L_law_97_31law3 rfl rfl rfl)
theorem dL_law_1555 : decode cL_law 1555 = .ok (.iload_n 3, 1) := dk_0 (dk_k29 1555) (dk_by (j := 3) rfl ck_L_law_97_31law3 rfl rfl rfl)
theorem dL_law_1556 : decode cL_law 1556 = .ok (.iconst 3, 1) := dk_0 (dk_k6 1556) (dk_by (j := 4) rfl ck_L_law_97_31law3 rfl rfl rfl)
theorem dL_law_1557 : decode cL_law 1557 = .ok (.iadd, 1) := dk_0 (dk_k96 1557) (dk_by (j := 5) rfl ck_L_law_97_31law3 rfl rfl rfl)
theorem dL_law_1558 : decode cL_law 1558 = .ok (.iaload, 1) := dk_0 (dk_k46 1558) (dk_by (j := 6) rfl ck_L_law_97_31law3 rfl rfl rfl)
theorem gL_law_X12_days : GoodIn lw_tbl (wsV RL 153 RX12 yX12_days wsX12_days) := ru_gL (ru_gV tw_7_188 tw_7_189 tw_7_190 tw_1_12 mT_X12_days)
theorem dL_law_1559 : decode cL_law 1559 = .ok (.invokevirtual 153, 3) := dk_2 (dk_k182 1559) (dk_by (j := 7) rfl ck_L_law_97_31law3 rfl rfl rfl) (dk_by (j := 8) rfl ck_L_law_97_31law3 rfl rfl rfl) (dk_by (j := 9) rfl ck_L_law_97_31law3 rfl rfl rfl) (by decide)
theorem dL_law_1562 : decode cL_law 1562 = .ok (.pop, 1) := dk_0 (dk_k87 1562) (dk_by (j := 10) rfl ck_L_law_97_31law3 rfl rfl rfl)
theorem dL_law_1563 : decode cL_law 1563 = .ok (.goto 271, 3) := dk_s (dk_k167 1563) (dk_by (j := 11) rfl ck_L_law_97_31law3 rfl rfl rfl) (dk_by (j := 12) rfl ck_L_law_97_31law3 rfl rfl rfl) (dk_by (j := 13) rfl ck_L_law_97_31law3 rfl rfl rfl) (by decide)
theorem dL_law_1566 : decode cL_law 1566 = .ok (.aload_n 1, 1) := dk_0 (dk_k43 1566) (dk_by (j := 14) rfl ck_L_law_97_31law3 rfl rfl rfl)
theorem dL_law_1567 : decode cL_law 1567 = .ok (.aload_n 0, 1) := dk_0 (dk_k42 1567) (dk_by (j := 15) rfl ck_L_law_97_31law3 rfl rfl rfl)
theorem dL_law_1568 : decode cL_law 1568 = .ok (.iload_n 3, 1) := dk_0 (dk_k29 1568) (dk_by (j := 0) rfl ck_L_law_98_31law3 rfl rfl rfl)
theorem dL_law_1569 : decode cL_law 1569 = .ok (.iconst 1, 1) := dk_0 (dk_k4 1569) (dk_by (j := 1) rfl ck_L_law_98_31law3 rfl rfl rfl)
theorem dL_law_1570 : decode cL_law 1570 = .ok (.iadd, 1) := dk_0 (dk_k96 1570) (dk_by (j := 2) rfl ck_L_law_98_31law3 rfl rfl rfl)
theorem dL_law_1571 : decode cL_law 1571 = .ok (.iaload, 1) := dk_0 (dk_k46 1571) (dk_by (j := 3) rfl ck_L_law_98_31law3 rfl rfl rfl)
theorem gL_law_X11_count : GoodIn lw_tbl (wsV RL 154 RX11 yX11_count wsX11_count) := ru_gL (ru_gV tw_5_65 tw_5_66 tw_5_67 tw_1_1 mT_X11_count)
theorem dL_law_1572 : decode cL_law 1572 = .ok (.invokevirtual 154, 3) := dk_2 (dk_k182 1572) (dk_by (j := 4) rfl ck_L_law_98_31law3 rfl rfl rfl) (dk_by (j := 5) rfl ck_L_law_98_31law3 rfl rfl rfl) (dk_by (j := 6) rfl ck_L_law_98_31law3 rfl rfl rfl) (by decide)
theorem dL_law_1575 : decode cL_law 1575 = .ok (.pop, 1) := dk_0 (dk_k87 1575) (dk_by (j := 7) rfl ck_L_law_98_31law3 rfl rfl rfl)
theorem dL_law_1576 : decode cL_law 1576 = .ok (.aload_n 2, 1) := dk_0 (dk_k44 1576) (dk_by (j := 8) rfl ck_L_law_98_31law3 rfl rfl rfl)
theorem dL_law_1577 : decode cL_law 1577 = .ok (.aload_n 0, 1) := dk_0 (dk_k42 1577) (dk_by (j := 9) rfl ck_L_law_98_31law3 rfl rfl rfl)
theorem dL_law_1578 : decode cL_law 1578 = .ok (.iload_n 3, 1) := dk_0 (dk_k29 1578) (dk_by (j := 10) rfl ck_L_law_98_31law3 rfl rfl rfl)
theorem dL_law_1579 : decode cL_law 1579 = .ok (.iconst 1, 1) := dk_0 (dk_k4 1579) (dk_by (j := 11) rfl ck_L_law_98_31law3 rfl rfl rfl)
theorem dL_law_1580 : decode cL_law 1580 = .ok (.iadd, 1) := dk_0 (dk_k96 1580) (dk_by (j := 12) rfl ck_L_law_98_31law3 rfl rfl rfl)
theorem dL_law_1581 : decode cL_law 1581 = .ok (.iaload, 1) := dk_0 (dk_k46 1581) (dk_by (j := 13) rfl ck_L_law_98_31law3 rfl rfl rfl)
theorem gL_law_X12_count : GoodIn lw_tbl (wsV RL 157 RX12 yX12_count wsX12_count) := ru_gL (ru_gV tw_7_196 tw_7_197 tw_7_198 tw_1_12 mT_X12_count)
theorem dL_law_1582 : decode cL_law 1582 = .ok (.invokevirtual 157, 3) := dk_2 (dk_k182 1582) (dk_by (j := 14) rfl ck_L_law_98_31law3 rfl rfl rfl) (dk_by (j := 15) rfl ck_L_law_98_31law3 rfl rfl rfl) (dk_by (j := 0) rfl ck_L_law_99_31law3 rfl rfl rfl) (by decide)
theorem dL_law_1585 : decode cL_law 1585 = .ok (.pop, 1) := dk_0 (dk_k87 1585) (dk_by (j := 1) rfl ck_L_law_99_31law3 rfl rfl rfl)
theorem dL_law_1586 : decode cL_law 1586 = .ok (.goto 248, 3) := dk_s (dk_k167 1586) (dk_by (j := 2) rfl ck_L_law_99_31law3 rfl rfl rfl) (dk_by (j := 3) rfl ck_L_law_99_31law3 rfl rfl rfl) (dk_by (j := 4) rfl ck_L_law_99_31law3 rfl rfl rfl) (by decide)
theorem dL_law_1589 : decode cL_law 1589 = .ok (.aload_n 1, 1) := dk_0 (dk_k43 1589) (dk_by (j := 5) rfl ck_L_law_99_31law3 rfl rfl rfl)
theorem dL_law_1590 : decode cL_law 1590 = .ok (.aload_n 0, 1) := dk_0 (dk_k42 1590) (dk_by (j := 6) rfl ck_L_law_99_31law3 rfl rfl rfl)
theorem dL_law_1591 : decode cL_law 1591 = .ok (.iload_n 3, 1) := dk_0 (dk_k29 1591) (dk_by (j := 7) rfl ck_L_law_99_31law3 rfl rfl rfl)
theorem dL_law_1592 : decode cL_law 1592 = .ok (.iconst 1, 1) := dk_0 (dk_k4 1592) (dk_by (j := 8) rfl ck_L_law_99_31law3 rfl rfl rfl)
theorem dL_law_1593 : decode cL_law 1593 = .ok (.iadd, 1) := dk_0 (dk_k96 1593) (dk_by (j := 9) rfl ck_L_law_99_31law3 rfl rfl rfl)
theorem dL_law_1594 : decode cL_law 1594 = .ok (.iaload, 1) := dk_0 (dk_k46 1594) (dk_by (j := 10) rfl ck_L_law_99_31law3 rfl rfl rfl)
theorem dL_law_1595 : decode cL_law 1595 = .ok (.aload_n 0, 1) := dk_0 (dk_k42 1595) (dk_by (j := 11) rfl ck_L_law_99_31law3 rfl rfl rfl)
theorem dL_law_1596 : decode cL_law 1596 = .ok (.iload_n 3, 1) := dk_0 (dk_k29 1596) (dk_by (j := 12) rfl ck_L_law_99_31law3 rfl rfl rfl)
theorem dL_law_1597 : decode cL_law 1597 = .ok (.iconst 2, 1) := dk_0 (dk_k5 1597) (dk_by (j := 13) rfl ck_L_law_99_31law3 rfl rfl rfl)
theorem dL_law_1598 : decode cL_law 1598 = .ok (.iadd, 1) := dk_0 (dk_k96 1598) (dk_by (j := 14) rfl ck_L_law_99_31law3 rfl rfl rfl)
theorem dL_law_1599 : decode cL_law 1599 = .ok (.iaload, 1) := dk_0 (dk_k46 1599) (dk_by (j := 15) rfl ck_L_law_99_31law3 rfl rfl rfl)
theorem dL_law_1600 : decode cL_law 1600 = .ok (.aload_n 0, 1) := dk_0 (dk_k42 1600) (dk_by (j := 0) rfl ck_L_law_100_31law3 rfl rfl rfl)
theorem dL_law_1601 : decode cL_law 1601 = .ok (.iload_n 3, 1) := dk_0 (dk_k29 1601) (dk_by (j := 1) rfl ck_L_law_100_31law3 rfl rfl rfl)
theorem dL_law_1602 : decode cL_law 1602 = .ok (.iconst 3, 1) := dk_0 (dk_k6 1602) (dk_by (j := 2) rfl ck_L_law_100_31law3 rfl rfl rfl)
theorem dL_law_1603 : decode cL_law 1603 = .ok (.iadd, 1) := dk_0 (dk_k96 1603) (dk_by (j := 3) rfl ck_L_law_100_31law3 rfl rfl rfl)
theorem dL_law_1604 : decode cL_law 1604 = .ok (.iaload, 1) := dk_0 (dk_k46 1604) (dk_by (j := 4) rfl ck_L_law_100_31law3 rfl rfl rfl)
theorem gL_law_X11_sheet : GoodIn lw_tbl (wsV RL 158 RX11 yX11_sheet wsX11_sheet) := ru_gL (ru_gV tw_5_69 tw_5_70 tw_5_71 tw_1_1 mT_X11_sheet)
theorem dL_law_1605 : decode cL_law 1605 = .ok (.invokevirtual 158, 3) := dk_2 (dk_k182 1605) (dk_by (j := 5) rfl ck_L_law_100_31law3 rfl rfl rfl) (dk_by (j := 6) rfl ck_L_law_100_31law3 rfl rfl rfl) (dk_by (j := 7) rfl ck_L_law_100_31law3 rfl rfl rfl) (by decide)
theorem dL_law_1608 : decode cL_law 1608 = .ok (.pop, 1) := dk_0 (dk_k87 1608) (dk_by (j := 8) rfl ck_L_law_100_31law3 rfl rfl rfl)
theorem dL_law_1609 : decode cL_law 1609 = .ok (.aload_n 2, 1) := dk_0 (dk_k44 1609) (dk_by (j := 9) rfl ck_L_law_100_31law3 rfl rfl rfl)
theorem dL_law_1610 : decode cL_law 1610 = .ok (.aload_n 0, 1) := dk_0 (dk_k42 1610) (dk_by (j := 10) rfl ck_L_law_100_31law3 rfl rfl rfl)
theorem dL_law_1611 : decode cL_law 1611 = .ok (.iload_n 3, 1) := dk_0 (dk_k29 1611) (dk_by (j := 11) rfl ck_L_law_100_31law3 rfl rfl rfl)
theorem dL_law_1612 : decode cL_law 1612 = .ok (.iconst 1, 1) := dk_0 (dk_k4 1612) (dk_by (j := 12) rfl ck_L_law_100_31law3 rfl rfl rfl)
theorem dL_law_1613 : decode cL_law 1613 = .ok (.iadd, 1) := dk_0 (dk_k96 1613) (dk_by (j := 13) rfl ck_L_law_100_31law3 rfl rfl rfl)
theorem dL_law_1614 : decode cL_law 1614 = .ok (.iaload, 1) := dk_0 (dk_k46 1614) (dk_by (j := 14) rfl ck_L_law_100_31law3 rfl rfl rfl)
theorem dL_law_1615 : decode cL_law 1615 = .ok (.aload_n 0, 1) := dk_0 (dk_k42 1615) (dk_by (j := 15) rfl ck_L_law_100_31law3 rfl rfl rfl)
theorem dL_law_1616 : decode cL_law 1616 = .ok (.iload_n 3, 1) := dk_0 (dk_k29 1616) (dk_by (j := 0) rfl ck_L_law_101_31law3 rfl rfl rfl)
theorem dL_law_1617 : decode cL_law 1617 = .ok (.iconst 2, 1) := dk_0 (dk_k5 1617) (dk_by (j := 1) rfl ck_L_law_101_31law3 rfl rfl rfl)
theorem dL_law_1618 : decode cL_law 1618 = .ok (.iadd, 1) := dk_0 (dk_k96 1618) (dk_by (j := 2) rfl ck_L_law_101_31law3 rfl rfl rfl)
theorem dL_law_1619 : decode cL_law 1619 = .ok (.iaload, 1) := dk_0 (dk_k46 1619) (dk_by (j := 3) rfl ck_L_law_101_31law3 rfl rfl rfl)
theorem dL_law_1620 : decode cL_law 1620 = .ok (.aload_n 0, 1) := dk_0 (dk_k42 1620) (dk_by (j := 4) rfl ck_L_law_101_31law3 rfl rfl rfl)
theorem dL_law_1621 : decode cL_law 1621 = .ok (.iload_n 3, 1) := dk_0 (dk_k29 1621) (dk_by (j := 5) rfl ck_L_law_101_31law3 rfl rfl rfl)
theorem dL_law_1622 : decode cL_law 1622 = .ok (.iconst 3, 1) := dk_0 (dk_k6 1622) (dk_by (j := 6) rfl ck_L_law_101_31law3 rfl rfl rfl)
theorem dL_law_1623 : decode cL_law 1623 = .ok (.iadd, 1) := dk_0 (dk_k96 1623) (dk_by (j := 7) rfl ck_L_law_101_31law3 rfl rfl rfl)
theorem dL_law_1624 : decode cL_law 1624 = .ok (.iaload, 1) := dk_0 (dk_k46 1624) (dk_by (j := 8) rfl ck_L_law_101_31law3 rfl rfl rfl)
theorem gL_law_X12_sheet : GoodIn lw_tbl (wsV RL 161 RX12 yX12_sheet wsX12_sheet) := ru_gL (ru_gV tw_7_200 tw_7_201 tw_7_202 tw_1_12 mT_X12_sheet)
theorem dL_law_1625 : decode cL_law 1625 = .ok (.invokevirtual 161, 3) := dk_2 (dk_k182 1625) (dk_by (j := 9) rfl ck_L_law_101_31law3 rfl rfl rfl) (dk_by (j := 10) rfl ck_L_law_101_31law3 rfl rfl rfl) (dk_by (j := 11) rfl ck_L_law_101_31law3 rfl rfl rfl) (by decide)
theorem dL_law_1628 : decode cL_law 1628 = .ok (.pop, 1) := dk_0 (dk_k87 1628) (dk_by (j := 12) rfl ck_L_law_101_31law3 rfl rfl rfl)
theorem dL_law_1629 : decode cL_law 1629 = .ok (.goto 205, 3) := dk_s (dk_k167 1629) (dk_by (j := 13) rfl ck_L_law_101_31law3 rfl rfl rfl) (dk_by (j := 14) rfl ck_L_law_101_31law3 rfl rfl rfl) (dk_by (j := 15) rfl ck_L_law_101_31law3 rfl rfl rfl) (by decide)
theorem dL_law_1632 : decode cL_law 1632 = .ok (.aload_n 1, 1) := dk_0 (dk_k43 1632) (dk_by (j := 0) rfl ck_L_law_102_31law3 rfl rfl rfl)
theorem dL_law_1633 : decode cL_law 1633 = .ok (.aload_n 0, 1) := dk_0 (dk_k42 1633) (dk_by (j := 1) rfl ck_L_law_102_31law3 rfl rfl rfl)
theorem dL_law_1634 : decode cL_law 1634 = .ok (.iload_n 3, 1) := dk_0 (dk_k29 1634) (dk_by (j := 2) rfl ck_L_law_102_31law3 rfl rfl rfl)
theorem dL_law_1635 : decode cL_law 1635 = .ok (.iconst 1, 1) := dk_0 (dk_k4 1635) (dk_by (j := 3) rfl ck_L_law_102_31law3 rfl rfl rfl)
theorem dL_law_1636 : decode cL_law 1636 = .ok (.iadd, 1) := dk_0 (dk_k96 1636) (dk_by (j := 4) rfl ck_L_law_102_31law3 rfl rfl rfl)
theorem dL_law_1637 : decode cL_law 1637 = .ok (.iaload, 1) := dk_0 (dk_k46 1637) (dk_by (j := 5) rfl ck_L_law_102_31law3 rfl rfl rfl)
theorem dL_law_1638 : decode cL_law 1638 = .ok (.aload_n 0, 1) := dk_0 (dk_k42 1638) (dk_by (j := 6) rfl ck_L_law_102_31law3 rfl rfl rfl)
theorem dL_law_1639 : decode cL_law 1639 = .ok (.iload_n 3, 1) := dk_0 (dk_k29 1639) (dk_by (j := 7) rfl ck_L_law_102_31law3 rfl rfl rfl)
theorem dL_law_1640 : decode cL_law 1640 = .ok (.iconst 2, 1) := dk_0 (dk_k5 1640) (dk_by (j := 8) rfl ck_L_law_102_31law3 rfl rfl rfl)
theorem dL_law_1641 : decode cL_law 1641 = .ok (.iadd, 1) := dk_0 (dk_k96 1641) (dk_by (j := 9) rfl ck_L_law_102_31law3 rfl rfl rfl)
theorem dL_law_1642 : decode cL_law 1642 = .ok (.iaload, 1) := dk_0 (dk_k46 1642) (dk_by (j := 10) rfl ck_L_law_102_31law3 rfl rfl rfl)
theorem dL_law_1643 : decode cL_law 1643 = .ok (.aload_n 0, 1) := dk_0 (dk_k42 1643) (dk_by (j := 11) rfl ck_L_law_102_31law3 rfl rfl rfl)
theorem dL_law_1644 : decode cL_law 1644 = .ok (.iload_n 3, 1) := dk_0 (dk_k29 1644) (dk_by (j := 12) rfl ck_L_law_102_31law3 rfl rfl rfl)
theorem dL_law_1645 : decode cL_law 1645 = .ok (.iconst 3, 1) := dk_0 (dk_k6 1645) (dk_by (j := 13) rfl ck_L_law_102_31law3 rfl rfl rfl)
theorem dL_law_1646 : decode cL_law 1646 = .ok (.iadd, 1) := dk_0 (dk_k96 1646) (dk_by (j := 14) rfl ck_L_law_102_31law3 rfl rfl rfl)
theorem dL_law_1647 : decode cL_law 1647 = .ok (.iaload, 1) := dk_0 (dk_k46 1647) (dk_by (j := 15) rfl ck_L_law_102_31law3 rfl rfl rfl)
theorem gL_law_X11_cell : GoodIn lw_tbl (wsV RL 162 RX11 yX11_cell wsX11_cell) := ru_gL (ru_gV tw_5_81 tw_5_82 tw_5_83 tw_1_1 mT_X11_cell)
theorem dL_law_1648 : decode cL_law 1648 = .ok (.invokevirtual 162, 3) := dk_2 (dk_k182 1648) (dk_by (j := 0) rfl ck_L_law_103_31law3 rfl rfl rfl) (dk_by (j := 1) rfl ck_L_law_103_31law3 rfl rfl rfl) (dk_by (j := 2) rfl ck_L_law_103_31law3 rfl rfl rfl) (by decide)
theorem dL_law_1651 : decode cL_law 1651 = .ok (.pop, 1) := dk_0 (dk_k87 1651) (dk_by (j := 3) rfl ck_L_law_103_31law3 rfl rfl rfl)
theorem dL_law_1652 : decode cL_law 1652 = .ok (.aload_n 2, 1) := dk_0 (dk_k44 1652) (dk_by (j := 4) rfl ck_L_law_103_31law3 rfl rfl rfl)
theorem dL_law_1653 : decode cL_law 1653 = .ok (.aload_n 0, 1) := dk_0 (dk_k42 1653) (dk_by (j := 5) rfl ck_L_law_103_31law3 rfl rfl rfl)
theorem dL_law_1654 : decode cL_law 1654 = .ok (.iload_n 3, 1) := dk_0 (dk_k29 1654) (dk_by (j := 6) rfl ck_L_law_103_31law3 rfl rfl rfl)
theorem dL_law_1655 : decode cL_law 1655 = .ok (.iconst 1, 1) := dk_0 (dk_k4 1655) (dk_by (j := 7) rfl ck_L_law_103_31law3 rfl rfl rfl)
theorem dL_law_1656 : decode cL_law 1656 = .ok (.iadd, 1) := dk_0 (dk_k96 1656) (dk_by (j := 8) rfl ck_L_law_103_31law3 rfl rfl rfl)
theorem dL_law_1657 : decode cL_law 1657 = .ok (.iaload, 1) := dk_0 (dk_k46 1657) (dk_by (j := 9) rfl ck_L_law_103_31law3 rfl rfl rfl)
theorem dL_law_1658 : decode cL_law 1658 = .ok (.aload_n 0, 1) := dk_0 (dk_k42 1658) (dk_by (j := 10) rfl ck_L_law_103_31law3 rfl rfl rfl)
theorem dL_law_1659 : decode cL_law 1659 = .ok (.iload_n 3, 1) := dk_0 (dk_k29 1659) (dk_by (j := 11) rfl ck_L_law_103_31law3 rfl rfl rfl)
theorem dL_law_1660 : decode cL_law 1660 = .ok (.iconst 2, 1) := dk_0 (dk_k5 1660) (dk_by (j := 12) rfl ck_L_law_103_31law3 rfl rfl rfl)
theorem dL_law_1661 : decode cL_law 1661 = .ok (.iadd, 1) := dk_0 (dk_k96 1661) (dk_by (j := 13) rfl ck_L_law_103_31law3 rfl rfl rfl)
theorem dL_law_1662 : decode cL_law 1662 = .ok (.iaload, 1) := dk_0 (dk_k46 1662) (dk_by (j := 14) rfl ck_L_law_103_31law3 rfl rfl rfl)
theorem dL_law_1663 : decode cL_law 1663 = .ok (.aload_n 0, 1) := dk_0 (dk_k42 1663) (dk_by (j := 15) rfl ck_L_law_103_31law3 rfl rfl rfl)
theorem dL_law_1664 : decode cL_law 1664 = .ok (.iload_n 3, 1) := dk_0 (dk_k29 1664) (dk_by (j := 0) rfl ck_L_law_104_31law3 rfl rfl rfl)
theorem dL_law_1665 : decode cL_law 1665 = .ok (.iconst 3, 1) := dk_0 (dk_k6 1665) (dk_by (j := 1) rfl ck_L_law_104_31law3 rfl rfl rfl)
theorem dL_law_1666 : decode cL_law 1666 = .ok (.iadd, 1) := dk_0 (dk_k96 1666) (dk_by (j := 2) rfl ck_L_law_104_31law3 rfl rfl rfl)
theorem dL_law_1667 : decode cL_law 1667 = .ok (.iaload, 1) := dk_0 (dk_k46 1667) (dk_by (j := 3) rfl ck_L_law_104_31law3 rfl rfl rfl)
theorem gL_law_X12_cell : GoodIn lw_tbl (wsV RL 165 RX12 yX12_cell wsX12_cell) := ru_gL (ru_gV tw_7_207 tw_7_208 tw_7_209 tw_1_12 mT_X12_cell)
theorem dL_law_1668 : decode cL_law 1668 = .ok (.invokevirtual 165, 3) := dk_2 (dk_k182 1668) (dk_by (j := 4) rfl ck_L_law_104_31law3 rfl rfl rfl) (dk_by (j := 5) rfl ck_L_law_104_31law3 rfl rfl rfl) (dk_by (j := 6) rfl ck_L_law_104_31law3 rfl rfl rfl) (by decide)
theorem dL_law_1671 : decode cL_law 1671 = .ok (.pop, 1) := dk_0 (dk_k87 1671) (dk_by (j := 7) rfl ck_L_law_104_31law3 rfl rfl rfl)
theorem dL_law_1672 : decode cL_law 1672 = .ok (.goto 162, 3) := dk_s (dk_k167 1672) (dk_by (j := 8) rfl ck_L_law_104_31law3 rfl rfl rfl) (dk_by (j := 9) rfl ck_L_law_104_31law3 rfl rfl rfl) (dk_by (j := 10) rfl ck_L_law_104_31law3 rfl rfl rfl) (by decide)
theorem dL_law_1675 : decode cL_law 1675 = .ok (.aload_n 1, 1) := dk_0 (dk_k43 1675) (dk_by (j := 11) rfl ck_L_law_104_31law3 rfl rfl rfl)
theorem dL_law_1676 : decode cL_law 1676 = .ok (.aload_n 0, 1) := dk_0 (dk_k42 1676) (dk_by (j := 12) rfl ck_L_law_104_31law3 rfl rfl rfl)
theorem dL_law_1677 : decode cL_law 1677 = .ok (.iload_n 3, 1) := dk_0 (dk_k29 1677) (dk_by (j := 13) rfl ck_L_law_104_31law3 rfl rfl rfl)
theorem dL_law_1678 : decode cL_law 1678 = .ok (.iconst 1, 1) := dk_0 (dk_k4 1678) (dk_by (j := 14) rfl ck_L_law_104_31law3 rfl rfl rfl)
theorem dL_law_1679 : decode cL_law 1679 = .ok (.iadd, 1) := dk_0 (dk_k96 1679) (dk_by (j := 15) rfl ck_L_law_104_31law3 rfl rfl rfl)
theorem dL_law_1680 : decode cL_law 1680 = .ok (.iaload, 1) := dk_0 (dk_k46 1680) (dk_by (j := 0) rfl ck_L_law_105_31law3 rfl rfl rfl)
theorem dL_law_1681 : decode cL_law 1681 = .ok (.aload_n 0, 1) := dk_0 (dk_k42 1681) (dk_by (j := 1) rfl ck_L_law_105_31law3 rfl rfl rfl)
theorem dL_law_1682 : decode cL_law 1682 = .ok (.iload_n 3, 1) := dk_0 (dk_k29 1682) (dk_by (j := 2) rfl ck_L_law_105_31law3 rfl rfl rfl)
theorem dL_law_1683 : decode cL_law 1683 = .ok (.iconst 2, 1) := dk_0 (dk_k5 1683) (dk_by (j := 3) rfl ck_L_law_105_31law3 rfl rfl rfl)
theorem dL_law_1684 : decode cL_law 1684 = .ok (.iadd, 1) := dk_0 (dk_k96 1684) (dk_by (j := 4) rfl ck_L_law_105_31law3 rfl rfl rfl)
theorem dL_law_1685 : decode cL_law 1685 = .ok (.iaload, 1) := dk_0 (dk_k46 1685) (dk_by (j := 5) rfl ck_L_law_105_31law3 rfl rfl rfl)
theorem dL_law_1686 : decode cL_law 1686 = .ok (.aload_n 0, 1) := dk_0 (dk_k42 1686) (dk_by (j := 6) rfl ck_L_law_105_31law3 rfl rfl rfl)
theorem dL_law_1687 : decode cL_law 1687 = .ok (.iload_n 3, 1) := dk_0 (dk_k29 1687) (dk_by (j := 7) rfl ck_L_law_105_31law3 rfl rfl rfl)
theorem dL_law_1688 : decode cL_law 1688 = .ok (.iconst 3, 1) := dk_0 (dk_k6 1688) (dk_by (j := 8) rfl ck_L_law_105_31law3 rfl rfl rfl)
theorem dL_law_1689 : decode cL_law 1689 = .ok (.iadd, 1) := dk_0 (dk_k96 1689) (dk_by (j := 9) rfl ck_L_law_105_31law3 rfl rfl rfl)
theorem dL_law_1690 : decode cL_law 1690 = .ok (.iaload, 1) := dk_0 (dk_k46 1690) (dk_by (j := 10) rfl ck_L_law_105_31law3 rfl rfl rfl)
theorem dL_law_1691 : decode cL_law 1691 = .ok (.aload_n 0, 1) := dk_0 (dk_k42 1691) (dk_by (j := 11) rfl ck_L_law_105_31law3 rfl rfl rfl)
theorem dL_law_1692 : decode cL_law 1692 = .ok (.iload_n 3, 1) := dk_0 (dk_k29 1692) (dk_by (j := 12) rfl ck_L_law_105_31law3 rfl rfl rfl)
theorem dL_law_1693 : decode cL_law 1693 = .ok (.iconst 4, 1) := dk_0 (dk_k7 1693) (dk_by (j := 13) rfl ck_L_law_105_31law3 rfl rfl rfl)
theorem dL_law_1694 : decode cL_law 1694 = .ok (.iadd, 1) := dk_0 (dk_k96 1694) (dk_by (j := 14) rfl ck_L_law_105_31law3 rfl rfl rfl)
theorem dL_law_1695 : decode cL_law 1695 = .ok (.iaload, 1) := dk_0 (dk_k46 1695) (dk_by (j := 15) rfl ck_L_law_105_31law3 rfl rfl rfl)
theorem dL_law_1696 : decode cL_law 1696 = .ok (.aload_n 0, 1) := dk_0 (dk_k42 1696) (dk_by (j := 0) rfl ck_L_law_106_31law3 rfl rfl rfl)
theorem dL_law_1697 : decode cL_law 1697 = .ok (.iload_n 3, 1) := dk_0 (dk_k29 1697) (dk_by (j := 1) rfl ck_L_law_106_31law3 rfl rfl rfl)
theorem dL_law_1698 : decode cL_law 1698 = .ok (.iconst 5, 1) := dk_0 (dk_k8 1698) (dk_by (j := 2) rfl ck_L_law_106_31law3 rfl rfl rfl)
theorem dL_law_1699 : decode cL_law 1699 = .ok (.iadd, 1) := dk_0 (dk_k96 1699) (dk_by (j := 3) rfl ck_L_law_106_31law3 rfl rfl rfl)
theorem dL_law_1700 : decode cL_law 1700 = .ok (.iaload, 1) := dk_0 (dk_k46 1700) (dk_by (j := 4) rfl ck_L_law_106_31law3 rfl rfl rfl)
theorem gL_law_X11_copy : GoodIn lw_tbl (wsV RL 166 RX11 yX11_copy wsX11_copy) := ru_gL (ru_gV tw_5_93 tw_5_94 tw_5_95 tw_1_1 mT_X11_copy)
theorem dL_law_1701 : decode cL_law 1701 = .ok (.invokevirtual 166, 3) := dk_2 (dk_k182 1701) (dk_by (j := 5) rfl ck_L_law_106_31law3 rfl rfl rfl) (dk_by (j := 6) rfl ck_L_law_106_31law3 rfl rfl rfl) (dk_by (j := 7) rfl ck_L_law_106_31law3 rfl rfl rfl) (by decide)
theorem dL_law_1704 : decode cL_law 1704 = .ok (.pop, 1) := dk_0 (dk_k87 1704) (dk_by (j := 8) rfl ck_L_law_106_31law3 rfl rfl rfl)
theorem dL_law_1705 : decode cL_law 1705 = .ok (.aload_n 2, 1) := dk_0 (dk_k44 1705) (dk_by (j := 9) rfl ck_L_law_106_31law3 rfl rfl rfl)
theorem dL_law_1706 : decode cL_law 1706 = .ok (.aload_n 0, 1) := dk_0 (dk_k42 1706) (dk_by (j := 10) rfl ck_L_law_106_31law3 rfl rfl rfl)
theorem dL_law_1707 : decode cL_law 1707 = .ok (.iload_n 3, 1) := dk_0 (dk_k29 1707) (dk_by (j := 11) rfl ck_L_law_106_31law3 rfl rfl rfl)
theorem dL_law_1708 : decode cL_law 1708 = .ok (.iconst 1, 1) := dk_0 (dk_k4 1708) (dk_by (j := 12) rfl ck_L_law_106_31law3 rfl rfl rfl)
theorem dL_law_1709 : decode cL_law 1709 = .ok (.iadd, 1) := dk_0 (dk_k96 1709) (dk_by (j := 13) rfl ck_L_law_106_31law3 rfl rfl rfl)
theorem dL_law_1710 : decode cL_law 1710 = .ok (.iaload, 1) := dk_0 (dk_k46 1710) (dk_by (j := 14) rfl ck_L_law_106_31law3 rfl rfl rfl)
theorem dL_law_1711 : decode cL_law 1711 = .ok (.aload_n 0, 1) := dk_0 (dk_k42 1711) (dk_by (j := 15) rfl ck_L_law_106_31law3 rfl rfl rfl)
theorem dL_law_1712 : decode cL_law 1712 = .ok (.iload_n 3, 1) := dk_0 (dk_k29 1712) (dk_by (j := 0) rfl ck_L_law_107_31law3 rfl rfl rfl)
theorem dL_law_1713 : decode cL_law 1713 = .ok (.iconst 2, 1) := dk_0 (dk_k5 1713) (dk_by (j := 1) rfl ck_L_law_107_31law3 rfl rfl rfl)
theorem dL_law_1714 : decode cL_law 1714 = .ok (.iadd, 1) := dk_0 (dk_k96 1714) (dk_by (j := 2) rfl ck_L_law_107_31law3 rfl rfl rfl)
theorem dL_law_1715 : decode cL_law 1715 = .ok (.iaload, 1) := dk_0 (dk_k46 1715) (dk_by (j := 3) rfl ck_L_law_107_31law3 rfl rfl rfl)
theorem dL_law_1716 : decode cL_law 1716 = .ok (.aload_n 0, 1) := dk_0 (dk_k42 1716) (dk_by (j := 4) rfl ck_L_law_107_31law3 rfl rfl rfl)
theorem dL_law_1717 : decode cL_law 1717 = .ok (.iload_n 3, 1) := dk_0 (dk_k29 1717) (dk_by (j := 5) rfl ck_L_law_107_31law3 rfl rfl rfl)
theorem dL_law_1718 : decode cL_law 1718 = .ok (.iconst 3, 1) := dk_0 (dk_k6 1718) (dk_by (j := 6) rfl ck_L_law_107_31law3 rfl rfl rfl)
theorem dL_law_1719 : decode cL_law 1719 = .ok (.iadd, 1) := dk_0 (dk_k96 1719) (dk_by (j := 7) rfl ck_L_law_107_31law3 rfl rfl rfl)
theorem dL_law_1720 : decode cL_law 1720 = .ok (.iaload, 1) := dk_0 (dk_k46 1720) (dk_by (j := 8) rfl ck_L_law_107_31law3 rfl rfl rfl)
theorem dL_law_1721 : decode cL_law 1721 = .ok (.aload_n 0, 1) := dk_0 (dk_k42 1721) (dk_by (j := 9) rfl ck_L_law_107_31law3 rfl rfl rfl)
theorem dL_law_1722 : decode cL_law 1722 = .ok (.iload_n 3, 1) := dk_0 (dk_k29 1722) (dk_by (j := 10) rfl ck_L_law_107_31law3 rfl rfl rfl)
theorem dL_law_1723 : decode cL_law 1723 = .ok (.iconst 4, 1) := dk_0 (dk_k7 1723) (dk_by (j := 11) rfl ck_L_law_107_31law3 rfl rfl rfl)
theorem dL_law_1724 : decode cL_law 1724 = .ok (.iadd, 1) := dk_0 (dk_k96 1724) (dk_by (j := 12) rfl ck_L_law_107_31law3 rfl rfl rfl)
theorem dL_law_1725 : decode cL_law 1725 = .ok (.iaload, 1) := dk_0 (dk_k46 1725) (dk_by (j := 13) rfl ck_L_law_107_31law3 rfl rfl rfl)
theorem dL_law_1726 : decode cL_law 1726 = .ok (.aload_n 0, 1) := dk_0 (dk_k42 1726) (dk_by (j := 14) rfl ck_L_law_107_31law3 rfl rfl rfl)
theorem dL_law_1727 : decode cL_law 1727 = .ok (.iload_n 3, 1) := dk_0 (dk_k29 1727) (dk_by (j := 15) rfl ck_L_law_107_31law3 rfl rfl rfl)
theorem dL_law_1728 : decode cL_law 1728 = .ok (.iconst 5, 1) := dk_0 (dk_k8 1728) (dk_by (j := 0) rfl ck_L_law_108_31law3 rfl rfl rfl)
theorem dL_law_1729 : decode cL_law 1729 = .ok (.iadd, 1) := dk_0 (dk_k96 1729) (dk_by (j := 1) rfl ck_L_law_108_31law3 rfl rfl rfl)
theorem dL_law_1730 : decode cL_law 1730 = .ok (.iaload, 1) := dk_0 (dk_k46 1730) (dk_by (j := 2) rfl ck_L_law_108_31law3 rfl rfl rfl)
theorem gL_law_X12_copy : GoodIn lw_tbl (wsV RL 169 RX12 yX12_copy wsX12_copy) := ru_gL (ru_gV tw_7_215 tw_7_216 tw_7_217 tw_1_12 mT_X12_copy)
theorem dL_law_1731 : decode cL_law 1731 = .ok (.invokevirtual 169, 3) := dk_2 (dk_k182 1731) (dk_by (j := 3) rfl ck_L_law_108_31law3 rfl rfl rfl) (dk_by (j := 4) rfl ck_L_law_108_31law3 rfl rfl rfl) (dk_by (j := 5) rfl ck_L_law_108_31law3 rfl rfl rfl) (by decide)
theorem dL_law_1734 : decode cL_law 1734 = .ok (.pop, 1) := dk_0 (dk_k87 1734) (dk_by (j := 6) rfl ck_L_law_108_31law3 rfl rfl rfl)
theorem dL_law_1735 : decode cL_law 1735 = .ok (.goto 99, 3) := dk_s (dk_k167 1735) (dk_by (j := 7) rfl ck_L_law_108_31law3 rfl rfl rfl) (dk_by (j := 8) rfl ck_L_law_108_31law3 rfl rfl rfl) (dk_by (j := 9) rfl ck_L_law_108_31law3 rfl rfl rfl) (by decide)
theorem dL_law_1738 : decode cL_law 1738 = .ok (.aload_n 1, 1) := dk_0 (dk_k43 1738) (dk_by (j := 10) rfl ck_L_law_108_31law3 rfl rfl rfl)
theorem dL_law_1739 : decode cL_law 1739 = .ok (.aload_n 0, 1) := dk_0 (dk_k42 1739) (dk_by (j := 11) rfl ck_L_law_108_31law3 rfl rfl rfl)
theorem dL_law_1740 : decode cL_law 1740 = .ok (.iload_n 3, 1) := dk_0 (dk_k29 1740) (dk_by (j := 12) rfl ck_L_law_108_31law3 rfl rfl rfl)
theorem dL_law_1741 : decode cL_law 1741 = .ok (.iconst 1, 1) := dk_0 (dk_k4 1741) (dk_by (j := 13) rfl ck_L_law_108_31law3 rfl rfl rfl)
theorem dL_law_1742 : decode cL_law 1742 = .ok (.iadd, 1) := dk_0 (dk_k96 1742) (dk_by (j := 14) rfl ck_L_law_108_31law3 rfl rfl rfl)
theorem dL_law_1743 : decode cL_law 1743 = .ok (.iaload, 1) := dk_0 (dk_k46 1743) (dk_by (j := 15) rfl ck_L_law_108_31law3 rfl rfl rfl)
theorem dL_law_1744 : decode cL_law 1744 = .ok (.aload_n 0, 1) := dk_0 (dk_k42 1744) (dk_by (j := 0) rfl ck_L_law_109_31law3 rfl rfl rfl)
theorem dL_law_1745 : decode cL_law 1745 = .ok (.iload_n 3, 1) := dk_0 (dk_k29 1745) (dk_by (j := 1) rfl ck_L_law_109_31law3 rfl rfl rfl)
theorem dL_law_1746 : decode cL_law 1746 = .ok (.iconst 2, 1) := dk_0 (dk_k5 1746) (dk_by (j := 2) rfl ck_L_law_109_31law3 rfl rfl rfl)
theorem dL_law_1747 : decode cL_law 1747 = .ok (.iadd, 1) := dk_0 (dk_k96 1747) (dk_by (j := 3) rfl ck_L_law_109_31law3 rfl rfl rfl)
theorem dL_law_1748 : decode cL_law 1748 = .ok (.iaload, 1) := dk_0 (dk_k46 1748) (dk_by (j := 4) rfl ck_L_law_109_31law3 rfl rfl rfl)
theorem dL_law_1749 : decode cL_law 1749 = .ok (.aload_n 0, 1) := dk_0 (dk_k42 1749) (dk_by (j := 5) rfl ck_L_law_109_31law3 rfl rfl rfl)
theorem dL_law_1750 : decode cL_law 1750 = .ok (.iload_n 3, 1) := dk_0 (dk_k29 1750) (dk_by (j := 6) rfl ck_L_law_109_31law3 rfl rfl rfl)
theorem dL_law_1751 : decode cL_law 1751 = .ok (.iconst 3, 1) := dk_0 (dk_k6 1751) (dk_by (j := 7) rfl ck_L_law_109_31law3 rfl rfl rfl)
theorem dL_law_1752 : decode cL_law 1752 = .ok (.iadd, 1) := dk_0 (dk_k96 1752) (dk_by (j := 8) rfl ck_L_law_109_31law3 rfl rfl rfl)
theorem dL_law_1753 : decode cL_law 1753 = .ok (.iaload, 1) := dk_0 (dk_k46 1753) (dk_by (j := 9) rfl ck_L_law_109_31law3 rfl rfl rfl)
theorem dL_law_1754 : decode cL_law 1754 = .ok (.aload_n 0, 1) := dk_0 (dk_k42 1754) (dk_by (j := 10) rfl ck_L_law_109_31law3 rfl rfl rfl)
theorem dL_law_1755 : decode cL_law 1755 = .ok (.iload_n 3, 1) := dk_0 (dk_k29 1755) (dk_by (j := 11) rfl ck_L_law_109_31law3 rfl rfl rfl)
theorem dL_law_1756 : decode cL_law 1756 = .ok (.iconst 4, 1) := dk_0 (dk_k7 1756) (dk_by (j := 12) rfl ck_L_law_109_31law3 rfl rfl rfl)
theorem dL_law_1757 : decode cL_law 1757 = .ok (.iadd, 1) := dk_0 (dk_k96 1757) (dk_by (j := 13) rfl ck_L_law_109_31law3 rfl rfl rfl)
theorem dL_law_1758 : decode cL_law 1758 = .ok (.iaload, 1) := dk_0 (dk_k46 1758) (dk_by (j := 14) rfl ck_L_law_109_31law3 rfl rfl rfl)
theorem dL_law_1759 : decode cL_law 1759 = .ok (.aload_n 0, 1) := dk_0 (dk_k42 1759) (dk_by (j := 15) rfl ck_L_law_109_31law3 rfl rfl rfl)
theorem dL_law_1760 : decode cL_law 1760 = .ok (.iload_n 3, 1) := dk_0 (dk_k29 1760) (dk_by (j := 0) rfl ck_L_law_110_31law3 rfl rfl rfl)
theorem dL_law_1761 : decode cL_law 1761 = .ok (.iconst 5, 1) := dk_0 (dk_k8 1761) (dk_by (j := 1) rfl ck_L_law_110_31law3 rfl rfl rfl)
theorem dL_law_1762 : decode cL_law 1762 = .ok (.iadd, 1) := dk_0 (dk_k96 1762) (dk_by (j := 2) rfl ck_L_law_110_31law3 rfl rfl rfl)
theorem dL_law_1763 : decode cL_law 1763 = .ok (.iaload, 1) := dk_0 (dk_k46 1763) (dk_by (j := 3) rfl ck_L_law_110_31law3 rfl rfl rfl)
theorem gL_law_X11_fixes : GoodIn lw_tbl (wsV RL 170 RX11 yX11_fixes wsX11_fixes) := ru_gL (ru_gV tw_5_102 tw_5_103 tw_5_104 tw_1_1 mT_X11_fixes)
theorem dL_law_1764 : decode cL_law 1764 = .ok (.invokevirtual 170, 3) := dk_2 (dk_k182 1764) (dk_by (j := 4) rfl ck_L_law_110_31law3 rfl rfl rfl) (dk_by (j := 5) rfl ck_L_law_110_31law3 rfl rfl rfl) (dk_by (j := 6) rfl ck_L_law_110_31law3 rfl rfl rfl) (by decide)
theorem dL_law_1767 : decode cL_law 1767 = .ok (.pop, 1) := dk_0 (dk_k87 1767) (dk_by (j := 7) rfl ck_L_law_110_31law3 rfl rfl rfl)
theorem dL_law_1768 : decode cL_law 1768 = .ok (.aload_n 2, 1) := dk_0 (dk_k44 1768) (dk_by (j := 8) rfl ck_L_law_110_31law3 rfl rfl rfl)
theorem dL_law_1769 : decode cL_law 1769 = .ok (.aload_n 0, 1) := dk_0 (dk_k42 1769) (dk_by (j := 9) rfl ck_L_law_110_31law3 rfl rfl rfl)
theorem dL_law_1770 : decode cL_law 1770 = .ok (.iload_n 3, 1) := dk_0 (dk_k29 1770) (dk_by (j := 10) rfl ck_L_law_110_31law3 rfl rfl rfl)
theorem dL_law_1771 : decode cL_law 1771 = .ok (.iconst 1, 1) := dk_0 (dk_k4 1771) (dk_by (j := 11) rfl ck_L_law_110_31law3 rfl rfl rfl)
theorem dL_law_1772 : decode cL_law 1772 = .ok (.iadd, 1) := dk_0 (dk_k96 1772) (dk_by (j := 12) rfl ck_L_law_110_31law3 rfl rfl rfl)
theorem dL_law_1773 : decode cL_law 1773 = .ok (.iaload, 1) := dk_0 (dk_k46 1773) (dk_by (j := 13) rfl ck_L_law_110_31law3 rfl rfl rfl)
theorem dL_law_1774 : decode cL_law 1774 = .ok (.aload_n 0, 1) := dk_0 (dk_k42 1774) (dk_by (j := 14) rfl ck_L_law_110_31law3 rfl rfl rfl)
theorem dL_law_1775 : decode cL_law 1775 = .ok (.iload_n 3, 1) := dk_0 (dk_k29 1775) (dk_by (j := 15) rfl ck_L_law_110_31law3 rfl rfl rfl)
theorem dL_law_1776 : decode cL_law 1776 = .ok (.iconst 2, 1) := dk_0 (dk_k5 1776) (dk_by (j := 0) rfl ck_L_law_111_31law3 rfl rfl rfl)
theorem dL_law_1777 : decode cL_law 1777 = .ok (.iadd, 1) := dk_0 (dk_k96 1777) (dk_by (j := 1) rfl ck_L_law_111_31law3 rfl rfl rfl)
theorem dL_law_1778 : decode cL_law 1778 = .ok (.iaload, 1) := dk_0 (dk_k46 1778) (dk_by (j := 2) rfl ck_L_law_111_31law3 rfl rfl rfl)
theorem dL_law_1779 : decode cL_law 1779 = .ok (.aload_n 0, 1) := dk_0 (dk_k42 1779) (dk_by (j := 3) rfl ck_L_law_111_31law3 rfl rfl rfl)
theorem dL_law_1780 : decode cL_law 1780 = .ok (.iload_n 3, 1) := dk_0 (dk_k29 1780) (dk_by (j := 4) rfl ck_L_law_111_31law3 rfl rfl rfl)
theorem dL_law_1781 : decode cL_law 1781 = .ok (.iconst 3, 1) := dk_0 (dk_k6 1781) (dk_by (j := 5) rfl ck_L_law_111_31law3 rfl rfl rfl)
theorem dL_law_1782 : decode cL_law 1782 = .ok (.iadd, 1) := dk_0 (dk_k96 1782) (dk_by (j := 6) rfl ck_L_law_111_31law3 rfl rfl rfl)
theorem dL_law_1783 : decode cL_law 1783 = .ok (.iaload, 1) := dk_0 (dk_k46 1783) (dk_by (j := 7) rfl ck_L_law_111_31law3 rfl rfl rfl)
theorem dL_law_1784 : decode cL_law 1784 = .ok (.aload_n 0, 1) := dk_0 (dk_k42 1784) (dk_by (j := 8) rfl ck_L_law_111_31law3 rfl rfl rfl)
theorem dL_law_1785 : decode cL_law 1785 = .ok (.iload_n 3, 1) := dk_0 (dk_k29 1785) (dk_by (j := 9) rfl ck_L_law_111_31law3 rfl rfl rfl)
theorem dL_law_1786 : decode cL_law 1786 = .ok (.iconst 4, 1) := dk_0 (dk_k7 1786) (dk_by (j := 10) rfl ck_L_law_111_31law3 rfl rfl rfl)
theorem dL_law_1787 : decode cL_law 1787 = .ok (.iadd, 1) := dk_0 (dk_k96 1787) (dk_by (j := 11) rfl ck_L_law_111_31law3 rfl rfl rfl)
theorem dL_law_1788 : decode cL_law 1788 = .ok (.iaload, 1) := dk_0 (dk_k46 1788) (dk_by (j := 12) rfl ck_L_law_111_31law3 rfl rfl rfl)
theorem dL_law_1789 : decode cL_law 1789 = .ok (.aload_n 0, 1) := dk_0 (dk_k42 1789) (dk_by (j := 13) rfl ck_L_law_111_31law3 rfl rfl rfl)
theorem dL_law_1790 : decode cL_law 1790 = .ok (.iload_n 3, 1) := dk_0 (dk_k29 1790) (dk_by (j := 14) rfl ck_L_law_111_31law3 rfl rfl rfl)
theorem dL_law_1791 : decode cL_law 1791 = .ok (.iconst 5, 1) := dk_0 (dk_k8 1791) (dk_by (j := 15) rfl ck_L_law_111_31law3 rfl rfl rfl)
theorem dL_law_1792 : decode cL_law 1792 = .ok (.iadd, 1) := dk_0 (dk_k96 1792) (dk_by (j := 0) rfl ck_L_law_112_31law3 rfl rfl rfl)
theorem dL_law_1793 : decode cL_law 1793 = .ok (.iaload, 1) := dk_0 (dk_k46 1793) (dk_by (j := 1) rfl ck_L_law_112_31law3 rfl rfl rfl)
theorem gL_law_X12_fixes : GoodIn lw_tbl (wsV RL 173 RX12 yX12_fixes wsX12_fixes) := ru_gL (ru_gV tw_7_219 tw_7_220 tw_7_221 tw_1_12 mT_X12_fixes)
theorem dL_law_1794 : decode cL_law 1794 = .ok (.invokevirtual 173, 3) := dk_2 (dk_k182 1794) (dk_by (j := 2) rfl ck_L_law_112_31law3 rfl rfl rfl) (dk_by (j := 3) rfl ck_L_law_112_31law3 rfl rfl rfl) (dk_by (j := 4) rfl ck_L_law_112_31law3 rfl rfl rfl) (by decide)
theorem dL_law_1797 : decode cL_law 1797 = .ok (.pop, 1) := dk_0 (dk_k87 1797) (dk_by (j := 5) rfl ck_L_law_112_31law3 rfl rfl rfl)
theorem dL_law_1798 : decode cL_law 1798 = .ok (.goto 36, 3) := dk_s (dk_k167 1798) (dk_by (j := 6) rfl ck_L_law_112_31law3 rfl rfl rfl) (dk_by (j := 7) rfl ck_L_law_112_31law3 rfl rfl rfl) (dk_by (j := 8) rfl ck_L_law_112_31law3 rfl rfl rfl) (by decide)
theorem dL_law_1801 : decode cL_law 1801 = .ok (.aload_n 1, 1) := dk_0 (dk_k43 1801) (dk_by (j := 9) rfl ck_L_law_112_31law3 rfl rfl rfl)
theorem dL_law_1802 : decode cL_law 1802 = .ok (.aload_n 0, 1) := dk_0 (dk_k42 1802) (dk_by (j := 10) rfl ck_L_law_112_31law3 rfl rfl rfl)
theorem dL_law_1803 : decode cL_law 1803 = .ok (.iload_n 3, 1) := dk_0 (dk_k29 1803) (dk_by (j := 11) rfl ck_L_law_112_31law3 rfl rfl rfl)
theorem dL_law_1804 : decode cL_law 1804 = .ok (.iconst 1, 1) := dk_0 (dk_k4 1804) (dk_by (j := 12) rfl ck_L_law_112_31law3 rfl rfl rfl)
theorem dL_law_1805 : decode cL_law 1805 = .ok (.iadd, 1) := dk_0 (dk_k96 1805) (dk_by (j := 13) rfl ck_L_law_112_31law3 rfl rfl rfl)
theorem dL_law_1806 : decode cL_law 1806 = .ok (.iaload, 1) := dk_0 (dk_k46 1806) (dk_by (j := 14) rfl ck_L_law_112_31law3 rfl rfl rfl)
theorem dL_law_1807 : decode cL_law 1807 = .ok (.aload_n 0, 1) := dk_0 (dk_k42 1807) (dk_by (j := 15) rfl ck_L_law_112_31law3 rfl rfl rfl)
theorem dL_law_1808 : decode cL_law 1808 = .ok (.iload_n 3, 1) := dk_0 (dk_k29 1808) (dk_by (j := 0) rfl ck_L_law_113_31law3 rfl rfl rfl)
theorem dL_law_1809 : decode cL_law 1809 = .ok (.iconst 2, 1) := dk_0 (dk_k5 1809) (dk_by (j := 1) rfl ck_L_law_113_31law3 rfl rfl rfl)
theorem dL_law_1810 : decode cL_law 1810 = .ok (.iadd, 1) := dk_0 (dk_k96 1810) (dk_by (j := 2) rfl ck_L_law_113_31law3 rfl rfl rfl)
theorem dL_law_1811 : decode cL_law 1811 = .ok (.iaload, 1) := dk_0 (dk_k46 1811) (dk_by (j := 3) rfl ck_L_law_113_31law3 rfl rfl rfl)
theorem gL_law_X11_taken : GoodIn lw_tbl (wsV RL 174 RX11 yX11_taken wsX11_taken) := ru_gL (ru_gV tw_5_107 tw_5_108 tw_5_109 tw_1_1 mT_X11_taken)
theorem dL_law_1812 : decode cL_law 1812 = .ok (.invokevirtual 174, 3) := dk_2 (dk_k182 1812) (dk_by (j := 4) rfl ck_L_law_113_31law3 rfl rfl rfl) (dk_by (j := 5) rfl ck_L_law_113_31law3 rfl rfl rfl) (dk_by (j := 6) rfl ck_L_law_113_31law3 rfl rfl rfl) (by decide)
theorem dL_law_1815 : decode cL_law 1815 = .ok (.aload_n 2, 1) := dk_0 (dk_k44 1815) (dk_by (j := 7) rfl ck_L_law_113_31law3 rfl rfl rfl)
theorem dL_law_1816 : decode cL_law 1816 = .ok (.aload_n 0, 1) := dk_0 (dk_k42 1816) (dk_by (j := 8) rfl ck_L_law_113_31law3 rfl rfl rfl)
theorem dL_law_1817 : decode cL_law 1817 = .ok (.iload_n 3, 1) := dk_0 (dk_k29 1817) (dk_by (j := 9) rfl ck_L_law_113_31law3 rfl rfl rfl)
theorem dL_law_1818 : decode cL_law 1818 = .ok (.iconst 1, 1) := dk_0 (dk_k4 1818) (dk_by (j := 10) rfl ck_L_law_113_31law3 rfl rfl rfl)
theorem dL_law_1819 : decode cL_law 1819 = .ok (.iadd, 1) := dk_0 (dk_k96 1819) (dk_by (j := 11) rfl ck_L_law_113_31law3 rfl rfl rfl)
theorem dL_law_1820 : decode cL_law 1820 = .ok (.iaload, 1) := dk_0 (dk_k46 1820) (dk_by (j := 12) rfl ck_L_law_113_31law3 rfl rfl rfl)
theorem dL_law_1821 : decode cL_law 1821 = .ok (.aload_n 0, 1) := dk_0 (dk_k42 1821) (dk_by (j := 13) rfl ck_L_law_113_31law3 rfl rfl rfl)
theorem dL_law_1822 : decode cL_law 1822 = .ok (.iload_n 3, 1) := dk_0 (dk_k29 1822) (dk_by (j := 14) rfl ck_L_law_113_31law3 rfl rfl rfl)
theorem dL_law_1823 : decode cL_law 1823 = .ok (.iconst 2, 1) := dk_0 (dk_k5 1823) (dk_by (j := 15) rfl ck_L_law_113_31law3 rfl rfl rfl)
theorem dL_law_1824 : decode cL_law 1824 = .ok (.iadd, 1) := dk_0 (dk_k96 1824) (dk_by (j := 0) rfl ck_L_law_114_31law3 rfl rfl rfl)
theorem dL_law_1825 : decode cL_law 1825 = .ok (.iaload, 1) := dk_0 (dk_k46 1825) (dk_by (j := 1) rfl ck_L_law_114_31law3 rfl rfl rfl)
theorem gL_law_X12_taken : GoodIn lw_tbl (wsV RL 177 RX12 yX12_taken wsX12_taken) := ru_gL (ru_gV tw_7_224 tw_7_225 tw_7_226 tw_1_12 mT_X12_taken)
theorem dL_law_1826 : decode cL_law 1826 = .ok (.invokevirtual 177, 3) := dk_2 (dk_k182 1826) (dk_by (j := 2) rfl ck_L_law_114_31law3 rfl rfl rfl) (dk_by (j := 3) rfl ck_L_law_114_31law3 rfl rfl rfl) (dk_by (j := 4) rfl ck_L_law_114_31law3 rfl rfl rfl) (by decide)
theorem dL_law_1829 : decode cL_law 1829 = .ok (.if_icmp .eq 5, 3) := dk_s (dk_k159 1829) (dk_by (j := 5) rfl ck_L_law_114_31law3 rfl rfl rfl) (dk_by (j := 6) rfl ck_L_law_114_31law3 rfl rfl rfl) (dk_by (j := 7) rfl ck_L_law_114_31law3 rfl rfl rfl) (by decide)
set_option maxHeartbeats 1000000 in
set_option maxRecDepth 20000 in
theorem lb_29 {p : Program} {l : Launch} {e : Env} {s : State} {m : MethodId} {below : List Frame} {meth : Method} {c : Code} {D : va_G} {ad : Nat → Nat → Nat} {C : Nat → Nat → ClassId} {nb : Nat} {M : fm_M} {b L : Nat} {xs : Nat → Int32} {H : Heap} {locs : List Loc} {kc sl : Nat} {i : Int32} (C0 : lw_At p s m meth c b L xs) (hkc : kc ≤ 10000) (hsl : sl ≤ 300000) (hc : fm_Cx D ad C nb (fun q : Nat => s.heap.size ≤ q) s) (hw : fm_at D ad C nb M H) (hI : fm_I nb ad M) (hS : va_S (fun q : Nat => s.heap.size ≤ q) s.heap H locs) (hi : 0 ≤ i.toInt ∧ i.toInt + 6 ≤ L) (hL : L ≤ 3072) (hrel : M.1 0 0 10 = M.1 60 0 16 ∧ (∀ j : Nat, j < nb → M.1 50 j 0 = M.1 110 0 j) ∧ (∀ j : Nat, j < nb → M.1 50 j 3 = M.1 113 0 j)) (kk : ∀ (M1 : fm_M) (H1 : Heap) (locs1 : List Loc), fm_at D ad C nb M1 H1 → fm_I nb ad M1 → va_S (fun q : Nat => s.heap.size ≤ q) s.heap H1 locs1 → M1.1 0 0 10 = M1.1 60 0 16 ∧ (∀ j : Nat, j < nb → M1.1 50 j 0 = M1.1 110 0 j) ∧ (∀ j : Nat, j < nb → M1.1 50 j 3 = M1.1 113 0 j) → ∀ ls : Array Slot, lv_has ls 4 [(3, .int i), (2, .ref (ad 60 0)), (1, .ref (ad 0 0)), (0, .ref b)] → W p l e room_1 s m #[Value.ref b] below meth c H1 locs1 kc sl (lw_Z below #[Value.ref b] s) (F0 m 1834 ls [])) (ls : Array Slot) (hl : lv_has ls 4 [(3, .int i), (2, .ref (ad 60 0)), (1, .ref (ad 0 0)), (0, .ref b)]) : W p l e room_1 s m #[Value.ref b] below meth c H locs kc sl (lw_Z below #[Value.ref b] s) (F0 m 1437 ls []) := by
  obtain ⟨hx, hb, hr, hml, hown, hts, hX, hbl, hlocks, hgv⟩ := id C0
  have hown : s.vm.findClass RL = some m.cls := hown
  have hb : c.code = cL_law := hb
  have hbA : ¬ (fun q : Nat => s.heap.size ≤ q) b := Nat.not_le.mpr hbl
  have hk1 : kc + 0 ≤ room_1.cells := by show kc + 0 ≤ 600000; omega
  have hs1 : sl + 0 ≤ room_1.slots := by show sl + 0 ≤ 7302250; omega
  have hI0 := hI
  refine lv_aload_n hx hb dL_law_1437 rfl (lv_at hl 2 rfl) ?_
  refine lv_aload_n hx hb dL_law_1438 rfl (lv_at hl 3 rfl) ?_
  refine lv_iload_n hx hb dL_law_1439 rfl (lv_at hl 0 rfl) ?_
  refine lv_iconst (v := 1) hx hb dL_law_1440 (by decide) ?_
  refine fx_iadd hx hb dL_law_1441 rfl zk_1 (by omega) (fun y1 ey1 ty1 => ?_)
  refine va_sld hx hb hX hbl hbA hS (fm_in (by omega)) dL_law_1442 ?_
  refine lv_topi (fun x2 ex2 => ?_)
  refine lv_aload_n hx hb dL_law_1443 rfl (lv_at hl 3 rfl) ?_
  refine lv_iload_n hx hb dL_law_1444 rfl (lv_at hl 0 rfl) ?_
  refine lv_iconst (v := 2) hx hb dL_law_1445 (by decide) ?_
  refine fx_iadd hx hb dL_law_1446 rfl zk_2 (by omega) (fun y3 ey3 ty3 => ?_)
  refine va_sld hx hb hX hbl hbA hS (fm_in (by omega)) dL_law_1447 ?_
  refine lv_topi (fun x4 ex4 => ?_)
  refine vp_callSi (va_Run.run (va_runV (As := [.int x2, .int x4]) (rest := []) ⟨hx, hb, hml, hown, hts⟩ (fc_X11_clash l D ad C nb M hI x2 x4) (cwV 2 hts gL_law_X11_clash rfl rfl rfl (by decide +kernel) ⟨Nat.le_of_ble_eq_true rfl, Nat.le_of_ble_eq_true rfl⟩) (fm_preV hc hw hS kl_0 sh_0 rfl) rfl rfl hl.1 rfl (lv_room (Nat.le_of_ble_eq_true rfl)) dL_law_1448 ⟨hk1, hs1⟩)) (fun r5 hr5 => ?_)
  refine lv_pop hx hb dL_law_1451 rfl ?_
  refine lv_aload_n hx hb dL_law_1452 rfl (lv_at hl 1 rfl) ?_
  refine lv_aload_n hx hb dL_law_1453 rfl (lv_at hl 3 rfl) ?_
  refine lv_iload_n hx hb dL_law_1454 rfl (lv_at hl 0 rfl) ?_
  refine lv_iconst (v := 1) hx hb dL_law_1455 (by decide) ?_
  refine fx_iadd hx hb dL_law_1456 rfl zk_1 (by omega) (fun y6 ey6 ty6 => ?_)
  refine va_sld hx hb hX hbl hbA hS (fm_in (by omega)) dL_law_1457 ?_
  refine lv_topi (fun x7 ex7 => ?_)
  have qx7 : x2 = x7 := by rw [ex7, ex2, ey6, ey1]
  clear ex7
  subst qx7
  refine lv_aload_n hx hb dL_law_1458 rfl (lv_at hl 3 rfl) ?_
  refine lv_iload_n hx hb dL_law_1459 rfl (lv_at hl 0 rfl) ?_
  refine lv_iconst (v := 2) hx hb dL_law_1460 (by decide) ?_
  refine fx_iadd hx hb dL_law_1461 rfl zk_2 (by omega) (fun y8 ey8 ty8 => ?_)
  refine va_sld hx hb hX hbl hbA hS (fm_in (by omega)) dL_law_1462 ?_
  refine lv_topi (fun x9 ex9 => ?_)
  have qx9 : x4 = x9 := by rw [ex9, ex4, ey8, ey3]
  clear ex9
  subst qx9
  refine vp_callSi (va_Run.run (va_runV (As := [.int x2, .int x4]) (rest := []) ⟨hx, hb, hml, hown, hts⟩ (fc_X12_clash l D ad C nb M hI x2 x4) (cwV 2 hts gL_law_X12_clash rfl rfl rfl (by decide +kernel) ⟨Nat.le_of_ble_eq_true rfl, Nat.le_of_ble_eq_true rfl⟩) (fm_preV hc hw hS kl_60 sh_60 rfl) rfl rfl hl.1 rfl (lv_room (Nat.le_of_ble_eq_true rfl)) dL_law_1463 ⟨hk1, hs1⟩)) (fun r10 hr10 => ?_)
  refine lv_pop hx hb dL_law_1466 rfl ?_
  refine lv_goto (tgt := 1834) hx hb dL_law_1467 (by decide) ?_
  have hr90 : M.1 0 0 10 = M.1 60 0 16 := hrel.1
  have hr91 : (∀ j : Nat, j < nb → M.1 50 j 0 = M.1 110 0 j) := fun j hj => by exact hrel.2.1 j hj
  have hr92 : (∀ j : Nat, j < nb → M.1 50 j 3 = M.1 113 0 j) := fun j hj => by exact hrel.2.2 j hj
  have hrel9 : M.1 0 0 10 = M.1 60 0 16 ∧ (∀ j : Nat, j < nb → M.1 50 j 0 = M.1 110 0 j) ∧ (∀ j : Nat, j < nb → M.1 50 j 3 = M.1 113 0 j) := ⟨hr90, hr91, hr92⟩
  exact kk M _ _ hw hI hS hrel9 ls (lv_sub hl [0, 1, 2, 3] rfl)
set_option maxHeartbeats 1000000 in
set_option maxRecDepth 20000 in
theorem lb_30 {p : Program} {l : Launch} {e : Env} {s : State} {m : MethodId} {below : List Frame} {meth : Method} {c : Code} {D : va_G} {ad : Nat → Nat → Nat} {C : Nat → Nat → ClassId} {nb : Nat} {M : fm_M} {b L : Nat} {xs : Nat → Int32} {H : Heap} {locs : List Loc} {kc sl : Nat} {i : Int32} (C0 : lw_At p s m meth c b L xs) (hkc : kc ≤ 10000) (hsl : sl ≤ 300000) (hc : fm_Cx D ad C nb (fun q : Nat => s.heap.size ≤ q) s) (hw : fm_at D ad C nb M H) (hI : fm_I nb ad M) (hS : va_S (fun q : Nat => s.heap.size ≤ q) s.heap H locs) (hi : 0 ≤ i.toInt ∧ i.toInt + 6 ≤ L) (hL : L ≤ 3072) (hrel : M.1 0 0 10 = M.1 60 0 16 ∧ (∀ j : Nat, j < nb → M.1 50 j 0 = M.1 110 0 j) ∧ (∀ j : Nat, j < nb → M.1 50 j 3 = M.1 113 0 j)) (kk : ∀ (M1 : fm_M) (H1 : Heap) (locs1 : List Loc), fm_at D ad C nb M1 H1 → fm_I nb ad M1 → va_S (fun q : Nat => s.heap.size ≤ q) s.heap H1 locs1 → M1.1 0 0 10 = M1.1 60 0 16 ∧ (∀ j : Nat, j < nb → M1.1 50 j 0 = M1.1 110 0 j) ∧ (∀ j : Nat, j < nb → M1.1 50 j 3 = M1.1 113 0 j) → ∀ ls : Array Slot, lv_has ls 4 [(3, .int i), (2, .ref (ad 60 0)), (1, .ref (ad 0 0)), (0, .ref b)] → W p l e room_1 s m #[Value.ref b] below meth c H1 locs1 kc sl (lw_Z below #[Value.ref b] s) (F0 m 1834 ls [])) (ls : Array Slot) (hl : lv_has ls 4 [(3, .int i), (2, .ref (ad 60 0)), (1, .ref (ad 0 0)), (0, .ref b)]) : W p l e room_1 s m #[Value.ref b] below meth c H locs kc sl (lw_Z below #[Value.ref b] s) (F0 m 1470 ls []) := by
  obtain ⟨hx, hb, hr, hml, hown, hts, hX, hbl, hlocks, hgv⟩ := id C0
  have hown : s.vm.findClass RL = some m.cls := hown
  have hb : c.code = cL_law := hb
  have hbA : ¬ (fun q : Nat => s.heap.size ≤ q) b := Nat.not_le.mpr hbl
  have hk1 : kc + 0 ≤ room_1.cells := by show kc + 0 ≤ 600000; omega
  have hs1 : sl + 0 ≤ room_1.slots := by show sl + 0 ≤ 7302250; omega
  have hI0 := hI
  refine lv_aload_n hx hb dL_law_1470 rfl (lv_at hl 2 rfl) ?_
  refine lv_aload_n hx hb dL_law_1471 rfl (lv_at hl 3 rfl) ?_
  refine lv_iload_n hx hb dL_law_1472 rfl (lv_at hl 0 rfl) ?_
  refine lv_iconst (v := 1) hx hb dL_law_1473 (by decide) ?_
  refine fx_iadd hx hb dL_law_1474 rfl zk_1 (by omega) (fun y1 ey1 ty1 => ?_)
  refine va_sld hx hb hX hbl hbA hS (fm_in (by omega)) dL_law_1475 ?_
  refine lv_topi (fun x2 ex2 => ?_)
  refine fx_i2l hx hb dL_law_1476 rfl (fun y3 ey3 ty3 => ?_)
  refine lv_bipush (v := 32) hx hb dL_law_1477 (by decide) ?_
  refine lv_lshl (v := y3 <<< ((32 : Int32).toInt64 &&& 63)) hx hb dL_law_1479 rfl ?_
  refine lv_topl (fun y4 ey4 => ?_)
  refine lv_aload_n hx hb dL_law_1480 rfl (lv_at hl 3 rfl) ?_
  refine lv_iload_n hx hb dL_law_1481 rfl (lv_at hl 0 rfl) ?_
  refine lv_iconst (v := 2) hx hb dL_law_1482 (by decide) ?_
  refine fx_iadd hx hb dL_law_1483 rfl zk_2 (by omega) (fun y5 ey5 ty5 => ?_)
  refine va_sld hx hb hX hbl hbA hS (fm_in (by omega)) dL_law_1484 ?_
  refine lv_topi (fun x6 ex6 => ?_)
  refine fx_i2l hx hb dL_law_1485 rfl (fun y7 ey7 ty7 => ?_)
  refine lv_ldc2 (v := 4294967295) hx hb hown (hts (.constantLong RL 42 (4294967295)) (rt_pc_in 7 _ (List.mem_of_getElem? (i := 231) (by decide +kernel)))) dL_law_1486 ?_
  refine lv_land hx hb dL_law_1489 ?_
  refine lv_topl (fun y8 ey8 => ?_)
  refine lv_lor hx hb dL_law_1490 ?_
  refine lv_topl (fun y9 ey9 => ?_)
  refine fm_ci (va_runV (As := [.long y9]) (rest := []) ⟨hx, hb, hml, hown, hts⟩ (fc_X11_row l D ad C nb M hI y9) (cwV 1 hts gL_law_X11_row rfl rfl rfl (by decide +kernel) ⟨Nat.le_of_ble_eq_true rfl, Nat.le_of_ble_eq_true rfl⟩) (fm_preV hc hw hS kl_0 sh_0 rfl) rfl rfl hl.1 rfl (lv_room (Nat.le_of_ble_eq_true rfl)) dL_law_1491 ⟨hk1, hs1⟩) hS hc (fun r10 M11 H locs hr10 hw hS => ?_)
  obtain ⟨hI, hEM11, hr10⟩ := hr10
  refine lv_pop hx hb dL_law_1494 rfl ?_
  refine lv_aload_n hx hb dL_law_1495 rfl (lv_at hl 1 rfl) ?_
  refine lv_aload_n hx hb dL_law_1496 rfl (lv_at hl 3 rfl) ?_
  refine lv_iload_n hx hb dL_law_1497 rfl (lv_at hl 0 rfl) ?_
  refine lv_iconst (v := 1) hx hb dL_law_1498 (by decide) ?_
  refine fx_iadd hx hb dL_law_1499 rfl zk_1 (by omega) (fun y12 ey12 ty12 => ?_)
  refine va_sld hx hb hX hbl hbA hS (fm_in (by omega)) dL_law_1500 ?_
  refine lv_topi (fun x13 ex13 => ?_)
  have qx13 : x2 = x13 := by rw [ex13, ex2, ey12, ey1]
  clear ex13
  subst qx13
  refine fx_i2l hx hb dL_law_1501 rfl (fun y14 ey14 ty14 => ?_)
  refine lv_bipush (v := 32) hx hb dL_law_1502 (by decide) ?_
  refine lv_lshl (v := y14 <<< ((32 : Int32).toInt64 &&& 63)) hx hb dL_law_1504 rfl ?_
  refine lv_topl (fun y15 ey15 => ?_)
  refine lv_aload_n hx hb dL_law_1505 rfl (lv_at hl 3 rfl) ?_
  refine lv_iload_n hx hb dL_law_1506 rfl (lv_at hl 0 rfl) ?_
  refine lv_iconst (v := 2) hx hb dL_law_1507 (by decide) ?_
  refine fx_iadd hx hb dL_law_1508 rfl zk_2 (by omega) (fun y16 ey16 ty16 => ?_)
  refine va_sld hx hb hX hbl hbA hS (fm_in (by omega)) dL_law_1509 ?_
  refine lv_topi (fun x17 ex17 => ?_)
  have qx17 : x6 = x17 := by rw [ex17, ex6, ey16, ey5]
  clear ex17
  subst qx17
  refine fx_i2l hx hb dL_law_1510 rfl (fun y18 ey18 ty18 => ?_)
  refine lv_ldc2 (v := 4294967295) hx hb hown (hts (.constantLong RL 42 (4294967295)) (rt_pc_in 7 _ (List.mem_of_getElem? (i := 231) (by decide +kernel)))) dL_law_1511 ?_
  refine lv_land hx hb dL_law_1514 ?_
  refine lv_topl (fun y19 ey19 => ?_)
  refine lv_lor hx hb dL_law_1515 ?_
  refine lv_topl (fun y20 ey20 => ?_)
  have qy20 : y9 = y20 := by rw [ey9, ey4, ey3, ey8, ey7, ey20, ey15, ey14, ey19, ey18]
  clear ey20
  subst qy20
  refine fm_ci (va_runV (As := [.long y9]) (rest := []) ⟨hx, hb, hml, hown, hts⟩ (fc_X12_row l D ad C nb M11 hI y9) (cwV 1 hts gL_law_X12_row rfl rfl rfl (by decide +kernel) ⟨Nat.le_of_ble_eq_true rfl, Nat.le_of_ble_eq_true rfl⟩) (fm_preV hc hw hS kl_60 sh_60 rfl) rfl rfl hl.1 rfl (lv_room (Nat.le_of_ble_eq_true rfl)) dL_law_1516 ⟨hk1, hs1⟩) hS hc (fun r21 M22 H locs hr21 hw hS => ?_)
  obtain ⟨hI, hEM22, hr21⟩ := hr21
  refine lv_pop hx hb dL_law_1519 rfl ?_
  refine lv_goto (tgt := 1834) hx hb dL_law_1520 (by decide) ?_
  have hr90 : M22.1 0 0 10 = M22.1 60 0 16 := by rw [(hEM22 0 0 10 (by decide)).1, (hEM11 0 0 10 (by decide)).1, (hEM22 60 0 16 (by decide)).1, (hEM11 60 0 16 (by decide)).1]; exact hrel.1
  have hr91 : (∀ j : Nat, j < nb → M22.1 50 j 0 = M22.1 110 0 j) := fun j hj => by rw [(hEM22 50 j 0 (by decide)).1, (hEM11 50 j 0 (by decide)).1, (hEM22 110 0 j (by rw [cd_110]; decide)).1, (hEM11 110 0 j (by rw [cd_110]; decide)).1]; exact hrel.2.1 j hj
  have hr92 : (∀ j : Nat, j < nb → M22.1 50 j 3 = M22.1 113 0 j) := fun j hj => by rw [(hEM22 50 j 3 (by decide)).1, (hEM11 50 j 3 (by decide)).1, (hEM22 113 0 j (by rw [cd_113]; decide)).1, (hEM11 113 0 j (by rw [cd_113]; decide)).1]; exact hrel.2.2 j hj
  have hrel9 : M22.1 0 0 10 = M22.1 60 0 16 ∧ (∀ j : Nat, j < nb → M22.1 50 j 0 = M22.1 110 0 j) ∧ (∀ j : Nat, j < nb → M22.1 50 j 3 = M22.1 113 0 j) := ⟨hr90, hr91, hr92⟩
  exact kk M22 _ _ hw hI hS hrel9 ls (lv_sub hl [0, 1, 2, 3] rfl)
set_option maxHeartbeats 1000000 in
set_option maxRecDepth 20000 in
theorem lb_31 {p : Program} {l : Launch} {e : Env} {s : State} {m : MethodId} {below : List Frame} {meth : Method} {c : Code} {D : va_G} {ad : Nat → Nat → Nat} {C : Nat → Nat → ClassId} {nb : Nat} {M : fm_M} {b L : Nat} {xs : Nat → Int32} {H : Heap} {locs : List Loc} {kc sl : Nat} {i : Int32} (C0 : lw_At p s m meth c b L xs) (hkc : kc ≤ 10000) (hsl : sl ≤ 300000) (hc : fm_Cx D ad C nb (fun q : Nat => s.heap.size ≤ q) s) (hw : fm_at D ad C nb M H) (hI : fm_I nb ad M) (hS : va_S (fun q : Nat => s.heap.size ≤ q) s.heap H locs) (hi : 0 ≤ i.toInt ∧ i.toInt + 6 ≤ L) (hL : L ≤ 3072) (hrel : M.1 0 0 10 = M.1 60 0 16 ∧ (∀ j : Nat, j < nb → M.1 50 j 0 = M.1 110 0 j) ∧ (∀ j : Nat, j < nb → M.1 50 j 3 = M.1 113 0 j)) (kk : ∀ (M1 : fm_M) (H1 : Heap) (locs1 : List Loc), fm_at D ad C nb M1 H1 → fm_I nb ad M1 → va_S (fun q : Nat => s.heap.size ≤ q) s.heap H1 locs1 → M1.1 0 0 10 = M1.1 60 0 16 ∧ (∀ j : Nat, j < nb → M1.1 50 j 0 = M1.1 110 0 j) ∧ (∀ j : Nat, j < nb → M1.1 50 j 3 = M1.1 113 0 j) → ∀ ls : Array Slot, lv_has ls 4 [(3, .int i), (2, .ref (ad 60 0)), (1, .ref (ad 0 0)), (0, .ref b)] → W p l e room_1 s m #[Value.ref b] below meth c H1 locs1 kc sl (lw_Z below #[Value.ref b] s) (F0 m 1834 ls [])) (ls : Array Slot) (hl : lv_has ls 4 [(3, .int i), (2, .ref (ad 60 0)), (1, .ref (ad 0 0)), (0, .ref b)]) : W p l e room_1 s m #[Value.ref b] below meth c H locs kc sl (lw_Z below #[Value.ref b] s) (F0 m 1523 ls []) := by
  obtain ⟨hx, hb, hr, hml, hown, hts, hX, hbl, hlocks, hgv⟩ := id C0
  have hown : s.vm.findClass RL = some m.cls := hown
  have hb : c.code = cL_law := hb
  have hbA : ¬ (fun q : Nat => s.heap.size ≤ q) b := Nat.not_le.mpr hbl
  have hk1 : kc + 0 ≤ room_1.cells := by show kc + 0 ≤ 600000; omega
  have hs1 : sl + 0 ≤ room_1.slots := by show sl + 0 ≤ 7302250; omega
  have hI0 := hI
  refine lv_aload_n hx hb dL_law_1523 rfl (lv_at hl 2 rfl) ?_
  refine lv_aload_n hx hb dL_law_1524 rfl (lv_at hl 3 rfl) ?_
  refine lv_iload_n hx hb dL_law_1525 rfl (lv_at hl 0 rfl) ?_
  refine lv_iconst (v := 1) hx hb dL_law_1526 (by decide) ?_
  refine fx_iadd hx hb dL_law_1527 rfl zk_1 (by omega) (fun y1 ey1 ty1 => ?_)
  refine va_sld hx hb hX hbl hbA hS (fm_in (by omega)) dL_law_1528 ?_
  refine lv_topi (fun x2 ex2 => ?_)
  refine lv_aload_n hx hb dL_law_1529 rfl (lv_at hl 3 rfl) ?_
  refine lv_iload_n hx hb dL_law_1530 rfl (lv_at hl 0 rfl) ?_
  refine lv_iconst (v := 2) hx hb dL_law_1531 (by decide) ?_
  refine fx_iadd hx hb dL_law_1532 rfl zk_2 (by omega) (fun y3 ey3 ty3 => ?_)
  refine va_sld hx hb hX hbl hbA hS (fm_in (by omega)) dL_law_1533 ?_
  refine lv_topi (fun x4 ex4 => ?_)
  refine lv_aload_n hx hb dL_law_1534 rfl (lv_at hl 3 rfl) ?_
  refine lv_iload_n hx hb dL_law_1535 rfl (lv_at hl 0 rfl) ?_
  refine lv_iconst (v := 3) hx hb dL_law_1536 (by decide) ?_
  refine fx_iadd hx hb dL_law_1537 rfl zk_3 (by omega) (fun y5 ey5 ty5 => ?_)
  refine va_sld hx hb hX hbl hbA hS (fm_in (by omega)) dL_law_1538 ?_
  refine lv_topi (fun x6 ex6 => ?_)
  refine fm_ci (va_runV (As := [.int x2, .int x4, .int x6]) (rest := []) ⟨hx, hb, hml, hown, hts⟩ (fc_X11_days l D ad C nb M hI x2 x4 x6) (cwV 3 hts gL_law_X11_days rfl rfl rfl (by decide +kernel) ⟨Nat.le_of_ble_eq_true rfl, Nat.le_of_ble_eq_true rfl⟩) (fm_preV hc hw hS kl_0 sh_0 rfl) rfl rfl hl.1 rfl (lv_room (Nat.le_of_ble_eq_true rfl)) dL_law_1539 ⟨hk1, hs1⟩) hS hc (fun r7 M8 H locs hr7 hw hS => ?_)
  obtain ⟨hI, hEM8, hr7⟩ := hr7
  refine lv_pop hx hb dL_law_1542 rfl ?_
  refine lv_aload_n hx hb dL_law_1543 rfl (lv_at hl 1 rfl) ?_
  refine lv_aload_n hx hb dL_law_1544 rfl (lv_at hl 3 rfl) ?_
  refine lv_iload_n hx hb dL_law_1545 rfl (lv_at hl 0 rfl) ?_
  refine lv_iconst (v := 1) hx hb dL_law_1546 (by decide) ?_
  refine fx_iadd hx hb dL_law_1547 rfl zk_1 (by omega) (fun y9 ey9 ty9 => ?_)
  refine va_sld hx hb hX hbl hbA hS (fm_in (by omega)) dL_law_1548 ?_
  refine lv_topi (fun x10 ex10 => ?_)
  have qx10 : x2 = x10 := by rw [ex10, ex2, ey9, ey1]
  clear ex10
  subst qx10
  refine lv_aload_n hx hb dL_law_1549 rfl (lv_at hl 3 rfl) ?_
  refine lv_iload_n hx hb dL_law_1550 rfl (lv_at hl 0 rfl) ?_
  refine lv_iconst (v := 2) hx hb dL_law_1551 (by decide) ?_
  refine fx_iadd hx hb dL_law_1552 rfl zk_2 (by omega) (fun y11 ey11 ty11 => ?_)
  refine va_sld hx hb hX hbl hbA hS (fm_in (by omega)) dL_law_1553 ?_
  refine lv_topi (fun x12 ex12 => ?_)
  have qx12 : x4 = x12 := by rw [ex12, ex4, ey11, ey3]
  clear ex12
  subst qx12
  refine lv_aload_n hx hb dL_law_1554 rfl (lv_at hl 3 rfl) ?_
  refine lv_iload_n hx hb dL_law_1555 rfl (lv_at hl 0 rfl) ?_
  refine lv_iconst (v := 3) hx hb dL_law_1556 (by decide) ?_
  refine fx_iadd hx hb dL_law_1557 rfl zk_3 (by omega) (fun y13 ey13 ty13 => ?_)
  refine va_sld hx hb hX hbl hbA hS (fm_in (by omega)) dL_law_1558 ?_
  refine lv_topi (fun x14 ex14 => ?_)
  have qx14 : x6 = x14 := by rw [ex14, ex6, ey13, ey5]
  clear ex14
  subst qx14
  refine fm_ci (va_runV (As := [.int x2, .int x4, .int x6]) (rest := []) ⟨hx, hb, hml, hown, hts⟩ (fc_X12_days l D ad C nb M8 hI x2 x4 x6) (cwV 3 hts gL_law_X12_days rfl rfl rfl (by decide +kernel) ⟨Nat.le_of_ble_eq_true rfl, Nat.le_of_ble_eq_true rfl⟩) (fm_preV hc hw hS kl_60 sh_60 rfl) rfl rfl hl.1 rfl (lv_room (Nat.le_of_ble_eq_true rfl)) dL_law_1559 ⟨hk1, hs1⟩) hS hc (fun r15 M16 H locs hr15 hw hS => ?_)
  obtain ⟨hI, hEM16, hr15⟩ := hr15
  refine lv_pop hx hb dL_law_1562 rfl ?_
  refine lv_goto (tgt := 1834) hx hb dL_law_1563 (by decide) ?_
  have hr90 : M16.1 0 0 10 = M16.1 60 0 16 := by rw [(hEM16 0 0 10 (by decide)).1, (hEM8 0 0 10 (by decide)).1, (hEM16 60 0 16 (by decide)).1, (hEM8 60 0 16 (by decide)).1]; exact hrel.1
  have hr91 : (∀ j : Nat, j < nb → M16.1 50 j 0 = M16.1 110 0 j) := fun j hj => by rw [(hEM16 50 j 0 (by decide)).1, (hEM8 50 j 0 (by decide)).1, (hEM16 110 0 j (by rw [cd_110]; decide)).1, (hEM8 110 0 j (by rw [cd_110]; decide)).1]; exact hrel.2.1 j hj
  have hr92 : (∀ j : Nat, j < nb → M16.1 50 j 3 = M16.1 113 0 j) := fun j hj => by rw [(hEM16 50 j 3 (by decide)).1, (hEM8 50 j 3 (by decide)).1, (hEM16 113 0 j (by rw [cd_113]; decide)).1, (hEM8 113 0 j (by rw [cd_113]; decide)).1]; exact hrel.2.2 j hj
  have hrel9 : M16.1 0 0 10 = M16.1 60 0 16 ∧ (∀ j : Nat, j < nb → M16.1 50 j 0 = M16.1 110 0 j) ∧ (∀ j : Nat, j < nb → M16.1 50 j 3 = M16.1 113 0 j) := ⟨hr90, hr91, hr92⟩
  exact kk M16 _ _ hw hI hS hrel9 ls (lv_sub hl [0, 1, 2, 3] rfl)
set_option maxHeartbeats 1000000 in
set_option maxRecDepth 20000 in
theorem lb_32 {p : Program} {l : Launch} {e : Env} {s : State} {m : MethodId} {below : List Frame} {meth : Method} {c : Code} {D : va_G} {ad : Nat → Nat → Nat} {C : Nat → Nat → ClassId} {nb : Nat} {M : fm_M} {b L : Nat} {xs : Nat → Int32} {H : Heap} {locs : List Loc} {kc sl : Nat} {i : Int32} (C0 : lw_At p s m meth c b L xs) (hkc : kc ≤ 10000) (hsl : sl ≤ 300000) (hc : fm_Cx D ad C nb (fun q : Nat => s.heap.size ≤ q) s) (hw : fm_at D ad C nb M H) (hI : fm_I nb ad M) (hS : va_S (fun q : Nat => s.heap.size ≤ q) s.heap H locs) (hi : 0 ≤ i.toInt ∧ i.toInt + 6 ≤ L) (hL : L ≤ 3072) (hrel : M.1 0 0 10 = M.1 60 0 16 ∧ (∀ j : Nat, j < nb → M.1 50 j 0 = M.1 110 0 j) ∧ (∀ j : Nat, j < nb → M.1 50 j 3 = M.1 113 0 j)) (kk : ∀ (M1 : fm_M) (H1 : Heap) (locs1 : List Loc), fm_at D ad C nb M1 H1 → fm_I nb ad M1 → va_S (fun q : Nat => s.heap.size ≤ q) s.heap H1 locs1 → M1.1 0 0 10 = M1.1 60 0 16 ∧ (∀ j : Nat, j < nb → M1.1 50 j 0 = M1.1 110 0 j) ∧ (∀ j : Nat, j < nb → M1.1 50 j 3 = M1.1 113 0 j) → ∀ ls : Array Slot, lv_has ls 4 [(3, .int i), (2, .ref (ad 60 0)), (1, .ref (ad 0 0)), (0, .ref b)] → W p l e room_1 s m #[Value.ref b] below meth c H1 locs1 kc sl (lw_Z below #[Value.ref b] s) (F0 m 1834 ls [])) (ls : Array Slot) (hl : lv_has ls 4 [(3, .int i), (2, .ref (ad 60 0)), (1, .ref (ad 0 0)), (0, .ref b)]) : W p l e room_1 s m #[Value.ref b] below meth c H locs kc sl (lw_Z below #[Value.ref b] s) (F0 m 1566 ls []) := by
  obtain ⟨hx, hb, hr, hml, hown, hts, hX, hbl, hlocks, hgv⟩ := id C0
  have hown : s.vm.findClass RL = some m.cls := hown
  have hb : c.code = cL_law := hb
  have hbA : ¬ (fun q : Nat => s.heap.size ≤ q) b := Nat.not_le.mpr hbl
  have hk1 : kc + 0 ≤ room_1.cells := by show kc + 0 ≤ 600000; omega
  have hs1 : sl + 0 ≤ room_1.slots := by show sl + 0 ≤ 7302250; omega
  have hI0 := hI
  refine lv_aload_n hx hb dL_law_1566 rfl (lv_at hl 2 rfl) ?_
  refine lv_aload_n hx hb dL_law_1567 rfl (lv_at hl 3 rfl) ?_
  refine lv_iload_n hx hb dL_law_1568 rfl (lv_at hl 0 rfl) ?_
  refine lv_iconst (v := 1) hx hb dL_law_1569 (by decide) ?_
  refine fx_iadd hx hb dL_law_1570 rfl zk_1 (by omega) (fun y1 ey1 ty1 => ?_)
  refine va_sld hx hb hX hbl hbA hS (fm_in (by omega)) dL_law_1571 ?_
  refine lv_topi (fun x2 ex2 => ?_)
  refine vp_callSi (va_Run.run (va_runV (As := [.int x2]) (rest := []) ⟨hx, hb, hml, hown, hts⟩ (fc_X11_count l D ad C nb M hI x2) (cwV 1 hts gL_law_X11_count rfl rfl rfl (by decide +kernel) ⟨Nat.le_of_ble_eq_true rfl, Nat.le_of_ble_eq_true rfl⟩) (fm_preV hc hw hS kl_0 sh_0 rfl) rfl rfl hl.1 rfl (lv_room (Nat.le_of_ble_eq_true rfl)) dL_law_1572 ⟨hk1, hs1⟩)) (fun r3 hr3 => ?_)
  refine lv_pop hx hb dL_law_1575 rfl ?_
  refine lv_aload_n hx hb dL_law_1576 rfl (lv_at hl 1 rfl) ?_
  refine lv_aload_n hx hb dL_law_1577 rfl (lv_at hl 3 rfl) ?_
  refine lv_iload_n hx hb dL_law_1578 rfl (lv_at hl 0 rfl) ?_
  refine lv_iconst (v := 1) hx hb dL_law_1579 (by decide) ?_
  refine fx_iadd hx hb dL_law_1580 rfl zk_1 (by omega) (fun y4 ey4 ty4 => ?_)
  refine va_sld hx hb hX hbl hbA hS (fm_in (by omega)) dL_law_1581 ?_
  refine lv_topi (fun x5 ex5 => ?_)
  have qx5 : x2 = x5 := by rw [ex5, ex2, ey4, ey1]
  clear ex5
  subst qx5
  refine vp_callSi (va_Run.run (va_runV (As := [.int x2]) (rest := []) ⟨hx, hb, hml, hown, hts⟩ (fc_X12_count l D ad C nb M hI x2) (cwV 1 hts gL_law_X12_count rfl rfl rfl (by decide +kernel) ⟨Nat.le_of_ble_eq_true rfl, Nat.le_of_ble_eq_true rfl⟩) (fm_preV hc hw hS kl_60 sh_60 rfl) rfl rfl hl.1 rfl (lv_room (Nat.le_of_ble_eq_true rfl)) dL_law_1582 ⟨hk1, hs1⟩)) (fun r6 hr6 => ?_)
  refine lv_pop hx hb dL_law_1585 rfl ?_
  refine lv_goto (tgt := 1834) hx hb dL_law_1586 (by decide) ?_
  have hr90 : M.1 0 0 10 = M.1 60 0 16 := hrel.1
  have hr91 : (∀ j : Nat, j < nb → M.1 50 j 0 = M.1 110 0 j) := fun j hj => by exact hrel.2.1 j hj
  have hr92 : (∀ j : Nat, j < nb → M.1 50 j 3 = M.1 113 0 j) := fun j hj => by exact hrel.2.2 j hj
  have hrel9 : M.1 0 0 10 = M.1 60 0 16 ∧ (∀ j : Nat, j < nb → M.1 50 j 0 = M.1 110 0 j) ∧ (∀ j : Nat, j < nb → M.1 50 j 3 = M.1 113 0 j) := ⟨hr90, hr91, hr92⟩
  exact kk M _ _ hw hI hS hrel9 ls (lv_sub hl [0, 1, 2, 3] rfl)
set_option maxHeartbeats 1000000 in
set_option maxRecDepth 20000 in
theorem lb_33 {p : Program} {l : Launch} {e : Env} {s : State} {m : MethodId} {below : List Frame} {meth : Method} {c : Code} {D : va_G} {ad : Nat → Nat → Nat} {C : Nat → Nat → ClassId} {nb : Nat} {M : fm_M} {b L : Nat} {xs : Nat → Int32} {H : Heap} {locs : List Loc} {kc sl : Nat} {i : Int32} (C0 : lw_At p s m meth c b L xs) (hkc : kc ≤ 10000) (hsl : sl ≤ 300000) (hc : fm_Cx D ad C nb (fun q : Nat => s.heap.size ≤ q) s) (hw : fm_at D ad C nb M H) (hI : fm_I nb ad M) (hS : va_S (fun q : Nat => s.heap.size ≤ q) s.heap H locs) (hi : 0 ≤ i.toInt ∧ i.toInt + 6 ≤ L) (hL : L ≤ 3072) (hrel : M.1 0 0 10 = M.1 60 0 16 ∧ (∀ j : Nat, j < nb → M.1 50 j 0 = M.1 110 0 j) ∧ (∀ j : Nat, j < nb → M.1 50 j 3 = M.1 113 0 j)) (kk : ∀ (M1 : fm_M) (H1 : Heap) (locs1 : List Loc), fm_at D ad C nb M1 H1 → fm_I nb ad M1 → va_S (fun q : Nat => s.heap.size ≤ q) s.heap H1 locs1 → M1.1 0 0 10 = M1.1 60 0 16 ∧ (∀ j : Nat, j < nb → M1.1 50 j 0 = M1.1 110 0 j) ∧ (∀ j : Nat, j < nb → M1.1 50 j 3 = M1.1 113 0 j) → ∀ ls : Array Slot, lv_has ls 4 [(3, .int i), (2, .ref (ad 60 0)), (1, .ref (ad 0 0)), (0, .ref b)] → W p l e room_1 s m #[Value.ref b] below meth c H1 locs1 kc sl (lw_Z below #[Value.ref b] s) (F0 m 1834 ls [])) (ls : Array Slot) (hl : lv_has ls 4 [(3, .int i), (2, .ref (ad 60 0)), (1, .ref (ad 0 0)), (0, .ref b)]) : W p l e room_1 s m #[Value.ref b] below meth c H locs kc sl (lw_Z below #[Value.ref b] s) (F0 m 1589 ls []) := by
  obtain ⟨hx, hb, hr, hml, hown, hts, hX, hbl, hlocks, hgv⟩ := id C0
  have hown : s.vm.findClass RL = some m.cls := hown
  have hb : c.code = cL_law := hb
  have hbA : ¬ (fun q : Nat => s.heap.size ≤ q) b := Nat.not_le.mpr hbl
  have hk1 : kc + 0 ≤ room_1.cells := by show kc + 0 ≤ 600000; omega
  have hs1 : sl + 0 ≤ room_1.slots := by show sl + 0 ≤ 7302250; omega
  have hI0 := hI
  refine lv_aload_n hx hb dL_law_1589 rfl (lv_at hl 2 rfl) ?_
  refine lv_aload_n hx hb dL_law_1590 rfl (lv_at hl 3 rfl) ?_
  refine lv_iload_n hx hb dL_law_1591 rfl (lv_at hl 0 rfl) ?_
  refine lv_iconst (v := 1) hx hb dL_law_1592 (by decide) ?_
  refine fx_iadd hx hb dL_law_1593 rfl zk_1 (by omega) (fun y1 ey1 ty1 => ?_)
  refine va_sld hx hb hX hbl hbA hS (fm_in (by omega)) dL_law_1594 ?_
  refine lv_topi (fun x2 ex2 => ?_)
  refine lv_aload_n hx hb dL_law_1595 rfl (lv_at hl 3 rfl) ?_
  refine lv_iload_n hx hb dL_law_1596 rfl (lv_at hl 0 rfl) ?_
  refine lv_iconst (v := 2) hx hb dL_law_1597 (by decide) ?_
  refine fx_iadd hx hb dL_law_1598 rfl zk_2 (by omega) (fun y3 ey3 ty3 => ?_)
  refine va_sld hx hb hX hbl hbA hS (fm_in (by omega)) dL_law_1599 ?_
  refine lv_topi (fun x4 ex4 => ?_)
  refine lv_aload_n hx hb dL_law_1600 rfl (lv_at hl 3 rfl) ?_
  refine lv_iload_n hx hb dL_law_1601 rfl (lv_at hl 0 rfl) ?_
  refine lv_iconst (v := 3) hx hb dL_law_1602 (by decide) ?_
  refine fx_iadd hx hb dL_law_1603 rfl zk_3 (by omega) (fun y5 ey5 ty5 => ?_)
  refine va_sld hx hb hX hbl hbA hS (fm_in (by omega)) dL_law_1604 ?_
  refine lv_topi (fun x6 ex6 => ?_)
  refine fm_ci (va_runV (As := [.int x2, .int x4, .int x6]) (rest := []) ⟨hx, hb, hml, hown, hts⟩ (fc_X11_sheet l D ad C nb M hI x2 x4 x6) (cwV 3 hts gL_law_X11_sheet rfl rfl rfl (by decide +kernel) ⟨Nat.le_of_ble_eq_true rfl, Nat.le_of_ble_eq_true rfl⟩) (fm_preV hc hw hS kl_0 sh_0 rfl) rfl rfl hl.1 rfl (lv_room (Nat.le_of_ble_eq_true rfl)) dL_law_1605 ⟨hk1, hs1⟩) hS hc (fun r7 M8 H locs hr7 hw hS => ?_)
  obtain ⟨hI, hEM8, hr7⟩ := hr7
  refine lv_pop hx hb dL_law_1608 rfl ?_
  refine lv_aload_n hx hb dL_law_1609 rfl (lv_at hl 1 rfl) ?_
  refine lv_aload_n hx hb dL_law_1610 rfl (lv_at hl 3 rfl) ?_
  refine lv_iload_n hx hb dL_law_1611 rfl (lv_at hl 0 rfl) ?_
  refine lv_iconst (v := 1) hx hb dL_law_1612 (by decide) ?_
  refine fx_iadd hx hb dL_law_1613 rfl zk_1 (by omega) (fun y9 ey9 ty9 => ?_)
  refine va_sld hx hb hX hbl hbA hS (fm_in (by omega)) dL_law_1614 ?_
  refine lv_topi (fun x10 ex10 => ?_)
  have qx10 : x2 = x10 := by rw [ex10, ex2, ey9, ey1]
  clear ex10
  subst qx10
  refine lv_aload_n hx hb dL_law_1615 rfl (lv_at hl 3 rfl) ?_
  refine lv_iload_n hx hb dL_law_1616 rfl (lv_at hl 0 rfl) ?_
  refine lv_iconst (v := 2) hx hb dL_law_1617 (by decide) ?_
  refine fx_iadd hx hb dL_law_1618 rfl zk_2 (by omega) (fun y11 ey11 ty11 => ?_)
  refine va_sld hx hb hX hbl hbA hS (fm_in (by omega)) dL_law_1619 ?_
  refine lv_topi (fun x12 ex12 => ?_)
  have qx12 : x4 = x12 := by rw [ex12, ex4, ey11, ey3]
  clear ex12
  subst qx12
  refine lv_aload_n hx hb dL_law_1620 rfl (lv_at hl 3 rfl) ?_
  refine lv_iload_n hx hb dL_law_1621 rfl (lv_at hl 0 rfl) ?_
  refine lv_iconst (v := 3) hx hb dL_law_1622 (by decide) ?_
  refine fx_iadd hx hb dL_law_1623 rfl zk_3 (by omega) (fun y13 ey13 ty13 => ?_)
  refine va_sld hx hb hX hbl hbA hS (fm_in (by omega)) dL_law_1624 ?_
  refine lv_topi (fun x14 ex14 => ?_)
  have qx14 : x6 = x14 := by rw [ex14, ex6, ey13, ey5]
  clear ex14
  subst qx14
  refine fm_ci (va_runV (As := [.int x2, .int x4, .int x6]) (rest := []) ⟨hx, hb, hml, hown, hts⟩ (fc_X12_sheet l D ad C nb M8 hI x2 x4 x6) (cwV 3 hts gL_law_X12_sheet rfl rfl rfl (by decide +kernel) ⟨Nat.le_of_ble_eq_true rfl, Nat.le_of_ble_eq_true rfl⟩) (fm_preV hc hw hS kl_60 sh_60 rfl) rfl rfl hl.1 rfl (lv_room (Nat.le_of_ble_eq_true rfl)) dL_law_1625 ⟨hk1, hs1⟩) hS hc (fun r15 M16 H locs hr15 hw hS => ?_)
  obtain ⟨hI, hEM16, hr15⟩ := hr15
  refine lv_pop hx hb dL_law_1628 rfl ?_
  refine lv_goto (tgt := 1834) hx hb dL_law_1629 (by decide) ?_
  have hr90 : M16.1 0 0 10 = M16.1 60 0 16 := by rw [(hEM16 0 0 10 (by decide)).1, (hEM8 0 0 10 (by decide)).1, (hEM16 60 0 16 (by decide)).1, (hEM8 60 0 16 (by decide)).1]; exact hrel.1
  have hr91 : (∀ j : Nat, j < nb → M16.1 50 j 0 = M16.1 110 0 j) := fun j hj => by rw [(hEM16 50 j 0 (by decide)).1, (hEM8 50 j 0 (by decide)).1, (hEM16 110 0 j (by rw [cd_110]; decide)).1, (hEM8 110 0 j (by rw [cd_110]; decide)).1]; exact hrel.2.1 j hj
  have hr92 : (∀ j : Nat, j < nb → M16.1 50 j 3 = M16.1 113 0 j) := fun j hj => by rw [(hEM16 50 j 3 (by decide)).1, (hEM8 50 j 3 (by decide)).1, (hEM16 113 0 j (by rw [cd_113]; decide)).1, (hEM8 113 0 j (by rw [cd_113]; decide)).1]; exact hrel.2.2 j hj
  have hrel9 : M16.1 0 0 10 = M16.1 60 0 16 ∧ (∀ j : Nat, j < nb → M16.1 50 j 0 = M16.1 110 0 j) ∧ (∀ j : Nat, j < nb → M16.1 50 j 3 = M16.1 113 0 j) := ⟨hr90, hr91, hr92⟩
  exact kk M16 _ _ hw hI hS hrel9 ls (lv_sub hl [0, 1, 2, 3] rfl)
set_option maxHeartbeats 1000000 in
set_option maxRecDepth 20000 in
theorem lb_34 {p : Program} {l : Launch} {e : Env} {s : State} {m : MethodId} {below : List Frame} {meth : Method} {c : Code} {D : va_G} {ad : Nat → Nat → Nat} {C : Nat → Nat → ClassId} {nb : Nat} {M : fm_M} {b L : Nat} {xs : Nat → Int32} {H : Heap} {locs : List Loc} {kc sl : Nat} {i : Int32} (C0 : lw_At p s m meth c b L xs) (hkc : kc ≤ 10000) (hsl : sl ≤ 300000) (hc : fm_Cx D ad C nb (fun q : Nat => s.heap.size ≤ q) s) (hw : fm_at D ad C nb M H) (hI : fm_I nb ad M) (hS : va_S (fun q : Nat => s.heap.size ≤ q) s.heap H locs) (hi : 0 ≤ i.toInt ∧ i.toInt + 6 ≤ L) (hL : L ≤ 3072) (hrel : M.1 0 0 10 = M.1 60 0 16 ∧ (∀ j : Nat, j < nb → M.1 50 j 0 = M.1 110 0 j) ∧ (∀ j : Nat, j < nb → M.1 50 j 3 = M.1 113 0 j)) (kk : ∀ (M1 : fm_M) (H1 : Heap) (locs1 : List Loc), fm_at D ad C nb M1 H1 → fm_I nb ad M1 → va_S (fun q : Nat => s.heap.size ≤ q) s.heap H1 locs1 → M1.1 0 0 10 = M1.1 60 0 16 ∧ (∀ j : Nat, j < nb → M1.1 50 j 0 = M1.1 110 0 j) ∧ (∀ j : Nat, j < nb → M1.1 50 j 3 = M1.1 113 0 j) → ∀ ls : Array Slot, lv_has ls 4 [(3, .int i), (2, .ref (ad 60 0)), (1, .ref (ad 0 0)), (0, .ref b)] → W p l e room_1 s m #[Value.ref b] below meth c H1 locs1 kc sl (lw_Z below #[Value.ref b] s) (F0 m 1834 ls [])) (ls : Array Slot) (hl : lv_has ls 4 [(3, .int i), (2, .ref (ad 60 0)), (1, .ref (ad 0 0)), (0, .ref b)]) : W p l e room_1 s m #[Value.ref b] below meth c H locs kc sl (lw_Z below #[Value.ref b] s) (F0 m 1632 ls []) := by
  obtain ⟨hx, hb, hr, hml, hown, hts, hX, hbl, hlocks, hgv⟩ := id C0
  have hown : s.vm.findClass RL = some m.cls := hown
  have hb : c.code = cL_law := hb
  have hbA : ¬ (fun q : Nat => s.heap.size ≤ q) b := Nat.not_le.mpr hbl
  have hk1 : kc + 0 ≤ room_1.cells := by show kc + 0 ≤ 600000; omega
  have hs1 : sl + 0 ≤ room_1.slots := by show sl + 0 ≤ 7302250; omega
  have hI0 := hI
  refine lv_aload_n hx hb dL_law_1632 rfl (lv_at hl 2 rfl) ?_
  refine lv_aload_n hx hb dL_law_1633 rfl (lv_at hl 3 rfl) ?_
  refine lv_iload_n hx hb dL_law_1634 rfl (lv_at hl 0 rfl) ?_
  refine lv_iconst (v := 1) hx hb dL_law_1635 (by decide) ?_
  refine fx_iadd hx hb dL_law_1636 rfl zk_1 (by omega) (fun y1 ey1 ty1 => ?_)
  refine va_sld hx hb hX hbl hbA hS (fm_in (by omega)) dL_law_1637 ?_
  refine lv_topi (fun x2 ex2 => ?_)
  refine lv_aload_n hx hb dL_law_1638 rfl (lv_at hl 3 rfl) ?_
  refine lv_iload_n hx hb dL_law_1639 rfl (lv_at hl 0 rfl) ?_
  refine lv_iconst (v := 2) hx hb dL_law_1640 (by decide) ?_
  refine fx_iadd hx hb dL_law_1641 rfl zk_2 (by omega) (fun y3 ey3 ty3 => ?_)
  refine va_sld hx hb hX hbl hbA hS (fm_in (by omega)) dL_law_1642 ?_
  refine lv_topi (fun x4 ex4 => ?_)
  refine lv_aload_n hx hb dL_law_1643 rfl (lv_at hl 3 rfl) ?_
  refine lv_iload_n hx hb dL_law_1644 rfl (lv_at hl 0 rfl) ?_
  refine lv_iconst (v := 3) hx hb dL_law_1645 (by decide) ?_
  refine fx_iadd hx hb dL_law_1646 rfl zk_3 (by omega) (fun y5 ey5 ty5 => ?_)
  refine va_sld hx hb hX hbl hbA hS (fm_in (by omega)) dL_law_1647 ?_
  refine lv_topi (fun x6 ex6 => ?_)
  refine fm_ci (va_runV (As := [.int x2, .int x4, .int x6]) (rest := []) ⟨hx, hb, hml, hown, hts⟩ (fc_X11_cell l D ad C nb M hI x2 x4 x6) (cwV 3 hts gL_law_X11_cell rfl rfl rfl (by decide +kernel) ⟨Nat.le_of_ble_eq_true rfl, Nat.le_of_ble_eq_true rfl⟩) (fm_preV hc hw hS kl_0 sh_0 rfl) rfl rfl hl.1 rfl (lv_room (Nat.le_of_ble_eq_true rfl)) dL_law_1648 ⟨hk1, hs1⟩) hS hc (fun r7 M8 H locs hr7 hw hS => ?_)
  obtain ⟨hI, hEM8, hr7⟩ := hr7
  refine lv_pop hx hb dL_law_1651 rfl ?_
  refine lv_aload_n hx hb dL_law_1652 rfl (lv_at hl 1 rfl) ?_
  refine lv_aload_n hx hb dL_law_1653 rfl (lv_at hl 3 rfl) ?_
  refine lv_iload_n hx hb dL_law_1654 rfl (lv_at hl 0 rfl) ?_
  refine lv_iconst (v := 1) hx hb dL_law_1655 (by decide) ?_
  refine fx_iadd hx hb dL_law_1656 rfl zk_1 (by omega) (fun y9 ey9 ty9 => ?_)
  refine va_sld hx hb hX hbl hbA hS (fm_in (by omega)) dL_law_1657 ?_
  refine lv_topi (fun x10 ex10 => ?_)
  have qx10 : x2 = x10 := by rw [ex10, ex2, ey9, ey1]
  clear ex10
  subst qx10
  refine lv_aload_n hx hb dL_law_1658 rfl (lv_at hl 3 rfl) ?_
  refine lv_iload_n hx hb dL_law_1659 rfl (lv_at hl 0 rfl) ?_
  refine lv_iconst (v := 2) hx hb dL_law_1660 (by decide) ?_
  refine fx_iadd hx hb dL_law_1661 rfl zk_2 (by omega) (fun y11 ey11 ty11 => ?_)
  refine va_sld hx hb hX hbl hbA hS (fm_in (by omega)) dL_law_1662 ?_
  refine lv_topi (fun x12 ex12 => ?_)
  have qx12 : x4 = x12 := by rw [ex12, ex4, ey11, ey3]
  clear ex12
  subst qx12
  refine lv_aload_n hx hb dL_law_1663 rfl (lv_at hl 3 rfl) ?_
  refine lv_iload_n hx hb dL_law_1664 rfl (lv_at hl 0 rfl) ?_
  refine lv_iconst (v := 3) hx hb dL_law_1665 (by decide) ?_
  refine fx_iadd hx hb dL_law_1666 rfl zk_3 (by omega) (fun y13 ey13 ty13 => ?_)
  refine va_sld hx hb hX hbl hbA hS (fm_in (by omega)) dL_law_1667 ?_
  refine lv_topi (fun x14 ex14 => ?_)
  have qx14 : x6 = x14 := by rw [ex14, ex6, ey13, ey5]
  clear ex14
  subst qx14
  refine fm_ci (va_runV (As := [.int x2, .int x4, .int x6]) (rest := []) ⟨hx, hb, hml, hown, hts⟩ (fc_X12_cell l D ad C nb M8 hI x2 x4 x6) (cwV 3 hts gL_law_X12_cell rfl rfl rfl (by decide +kernel) ⟨Nat.le_of_ble_eq_true rfl, Nat.le_of_ble_eq_true rfl⟩) (fm_preV hc hw hS kl_60 sh_60 rfl) rfl rfl hl.1 rfl (lv_room (Nat.le_of_ble_eq_true rfl)) dL_law_1668 ⟨hk1, hs1⟩) hS hc (fun r15 M16 H locs hr15 hw hS => ?_)
  obtain ⟨hI, hEM16, hr15⟩ := hr15
  refine lv_pop hx hb dL_law_1671 rfl ?_
  refine lv_goto (tgt := 1834) hx hb dL_law_1672 (by decide) ?_
  have hr90 : M16.1 0 0 10 = M16.1 60 0 16 := by rw [(hEM16 0 0 10 (by decide)).1, (hEM8 0 0 10 (by decide)).1, (hEM16 60 0 16 (by decide)).1, (hEM8 60 0 16 (by decide)).1]; exact hrel.1
  have hr91 : (∀ j : Nat, j < nb → M16.1 50 j 0 = M16.1 110 0 j) := fun j hj => by rw [(hEM16 50 j 0 (by decide)).1, (hEM8 50 j 0 (by decide)).1, (hEM16 110 0 j (by rw [cd_110]; decide)).1, (hEM8 110 0 j (by rw [cd_110]; decide)).1]; exact hrel.2.1 j hj
  have hr92 : (∀ j : Nat, j < nb → M16.1 50 j 3 = M16.1 113 0 j) := fun j hj => by rw [(hEM16 50 j 3 (by decide)).1, (hEM8 50 j 3 (by decide)).1, (hEM16 113 0 j (by rw [cd_113]; decide)).1, (hEM8 113 0 j (by rw [cd_113]; decide)).1]; exact hrel.2.2 j hj
  have hrel9 : M16.1 0 0 10 = M16.1 60 0 16 ∧ (∀ j : Nat, j < nb → M16.1 50 j 0 = M16.1 110 0 j) ∧ (∀ j : Nat, j < nb → M16.1 50 j 3 = M16.1 113 0 j) := ⟨hr90, hr91, hr92⟩
  exact kk M16 _ _ hw hI hS hrel9 ls (lv_sub hl [0, 1, 2, 3] rfl)
set_option maxHeartbeats 1000000 in
set_option maxRecDepth 20000 in
theorem lb_35 {p : Program} {l : Launch} {e : Env} {s : State} {m : MethodId} {below : List Frame} {meth : Method} {c : Code} {D : va_G} {ad : Nat → Nat → Nat} {C : Nat → Nat → ClassId} {nb : Nat} {M : fm_M} {b L : Nat} {xs : Nat → Int32} {H : Heap} {locs : List Loc} {kc sl : Nat} {i : Int32} (C0 : lw_At p s m meth c b L xs) (hkc : kc ≤ 10000) (hsl : sl ≤ 300000) (hc : fm_Cx D ad C nb (fun q : Nat => s.heap.size ≤ q) s) (hw : fm_at D ad C nb M H) (hI : fm_I nb ad M) (hS : va_S (fun q : Nat => s.heap.size ≤ q) s.heap H locs) (hi : 0 ≤ i.toInt ∧ i.toInt + 6 ≤ L) (hL : L ≤ 3072) (hrel : M.1 0 0 10 = M.1 60 0 16 ∧ (∀ j : Nat, j < nb → M.1 50 j 0 = M.1 110 0 j) ∧ (∀ j : Nat, j < nb → M.1 50 j 3 = M.1 113 0 j)) (kk : ∀ (M1 : fm_M) (H1 : Heap) (locs1 : List Loc), fm_at D ad C nb M1 H1 → fm_I nb ad M1 → va_S (fun q : Nat => s.heap.size ≤ q) s.heap H1 locs1 → M1.1 0 0 10 = M1.1 60 0 16 ∧ (∀ j : Nat, j < nb → M1.1 50 j 0 = M1.1 110 0 j) ∧ (∀ j : Nat, j < nb → M1.1 50 j 3 = M1.1 113 0 j) → ∀ ls : Array Slot, lv_has ls 4 [(3, .int i), (2, .ref (ad 60 0)), (1, .ref (ad 0 0)), (0, .ref b)] → W p l e room_1 s m #[Value.ref b] below meth c H1 locs1 kc sl (lw_Z below #[Value.ref b] s) (F0 m 1834 ls [])) (ls : Array Slot) (hl : lv_has ls 4 [(3, .int i), (2, .ref (ad 60 0)), (1, .ref (ad 0 0)), (0, .ref b)]) : W p l e room_1 s m #[Value.ref b] below meth c H locs kc sl (lw_Z below #[Value.ref b] s) (F0 m 1675 ls []) := by
  obtain ⟨hx, hb, hr, hml, hown, hts, hX, hbl, hlocks, hgv⟩ := id C0
  have hown : s.vm.findClass RL = some m.cls := hown
  have hb : c.code = cL_law := hb
  have hbA : ¬ (fun q : Nat => s.heap.size ≤ q) b := Nat.not_le.mpr hbl
  have hk1 : kc + 0 ≤ room_1.cells := by show kc + 0 ≤ 600000; omega
  have hs1 : sl + 0 ≤ room_1.slots := by show sl + 0 ≤ 7302250; omega
  have hI0 := hI
  refine lv_aload_n hx hb dL_law_1675 rfl (lv_at hl 2 rfl) ?_
  refine lv_aload_n hx hb dL_law_1676 rfl (lv_at hl 3 rfl) ?_
  refine lv_iload_n hx hb dL_law_1677 rfl (lv_at hl 0 rfl) ?_
  refine lv_iconst (v := 1) hx hb dL_law_1678 (by decide) ?_
  refine fx_iadd hx hb dL_law_1679 rfl zk_1 (by omega) (fun y1 ey1 ty1 => ?_)
  refine va_sld hx hb hX hbl hbA hS (fm_in (by omega)) dL_law_1680 ?_
  refine lv_topi (fun x2 ex2 => ?_)
  refine lv_aload_n hx hb dL_law_1681 rfl (lv_at hl 3 rfl) ?_
  refine lv_iload_n hx hb dL_law_1682 rfl (lv_at hl 0 rfl) ?_
  refine lv_iconst (v := 2) hx hb dL_law_1683 (by decide) ?_
  refine fx_iadd hx hb dL_law_1684 rfl zk_2 (by omega) (fun y3 ey3 ty3 => ?_)
  refine va_sld hx hb hX hbl hbA hS (fm_in (by omega)) dL_law_1685 ?_
  refine lv_topi (fun x4 ex4 => ?_)
  refine lv_aload_n hx hb dL_law_1686 rfl (lv_at hl 3 rfl) ?_
  refine lv_iload_n hx hb dL_law_1687 rfl (lv_at hl 0 rfl) ?_
  refine lv_iconst (v := 3) hx hb dL_law_1688 (by decide) ?_
  refine fx_iadd hx hb dL_law_1689 rfl zk_3 (by omega) (fun y5 ey5 ty5 => ?_)
  refine va_sld hx hb hX hbl hbA hS (fm_in (by omega)) dL_law_1690 ?_
  refine lv_topi (fun x6 ex6 => ?_)
  refine lv_aload_n hx hb dL_law_1691 rfl (lv_at hl 3 rfl) ?_
  refine lv_iload_n hx hb dL_law_1692 rfl (lv_at hl 0 rfl) ?_
  refine lv_iconst (v := 4) hx hb dL_law_1693 (by decide) ?_
  refine fx_iadd hx hb dL_law_1694 rfl zk_4 (by omega) (fun y7 ey7 ty7 => ?_)
  refine va_sld hx hb hX hbl hbA hS (fm_in (by omega)) dL_law_1695 ?_
  refine lv_topi (fun x8 ex8 => ?_)
  refine lv_aload_n hx hb dL_law_1696 rfl (lv_at hl 3 rfl) ?_
  refine lv_iload_n hx hb dL_law_1697 rfl (lv_at hl 0 rfl) ?_
  refine lv_iconst (v := 5) hx hb dL_law_1698 (by decide) ?_
  refine fx_iadd hx hb dL_law_1699 rfl zk_5 (by omega) (fun y9 ey9 ty9 => ?_)
  refine va_sld hx hb hX hbl hbA hS (fm_in (by omega)) dL_law_1700 ?_
  refine lv_topi (fun x10 ex10 => ?_)
  refine fm_ci (va_runV (As := [.int x2, .int x4, .int x6, .int x8, .int x10]) (rest := []) ⟨hx, hb, hml, hown, hts⟩ (fc_X11_copy l D ad C nb M hI x2 x4 x6 x8 x10) (cwV 5 hts gL_law_X11_copy rfl rfl rfl (by decide +kernel) ⟨Nat.le_of_ble_eq_true rfl, Nat.le_of_ble_eq_true rfl⟩) (fm_preV hc hw hS kl_0 sh_0 rfl) rfl rfl hl.1 rfl (lv_room (Nat.le_of_ble_eq_true rfl)) dL_law_1701 ⟨hk1, hs1⟩) hS hc (fun r11 M12 H locs hr11 hw hS => ?_)
  obtain ⟨hI, hEM12, hr11⟩ := hr11
  refine lv_pop hx hb dL_law_1704 rfl ?_
  refine lv_aload_n hx hb dL_law_1705 rfl (lv_at hl 1 rfl) ?_
  refine lv_aload_n hx hb dL_law_1706 rfl (lv_at hl 3 rfl) ?_
  refine lv_iload_n hx hb dL_law_1707 rfl (lv_at hl 0 rfl) ?_
  refine lv_iconst (v := 1) hx hb dL_law_1708 (by decide) ?_
  refine fx_iadd hx hb dL_law_1709 rfl zk_1 (by omega) (fun y13 ey13 ty13 => ?_)
  refine va_sld hx hb hX hbl hbA hS (fm_in (by omega)) dL_law_1710 ?_
  refine lv_topi (fun x14 ex14 => ?_)
  have qx14 : x2 = x14 := by rw [ex14, ex2, ey13, ey1]
  clear ex14
  subst qx14
  refine lv_aload_n hx hb dL_law_1711 rfl (lv_at hl 3 rfl) ?_
  refine lv_iload_n hx hb dL_law_1712 rfl (lv_at hl 0 rfl) ?_
  refine lv_iconst (v := 2) hx hb dL_law_1713 (by decide) ?_
  refine fx_iadd hx hb dL_law_1714 rfl zk_2 (by omega) (fun y15 ey15 ty15 => ?_)
  refine va_sld hx hb hX hbl hbA hS (fm_in (by omega)) dL_law_1715 ?_
  refine lv_topi (fun x16 ex16 => ?_)
  have qx16 : x4 = x16 := by rw [ex16, ex4, ey15, ey3]
  clear ex16
  subst qx16
  refine lv_aload_n hx hb dL_law_1716 rfl (lv_at hl 3 rfl) ?_
  refine lv_iload_n hx hb dL_law_1717 rfl (lv_at hl 0 rfl) ?_
  refine lv_iconst (v := 3) hx hb dL_law_1718 (by decide) ?_
  refine fx_iadd hx hb dL_law_1719 rfl zk_3 (by omega) (fun y17 ey17 ty17 => ?_)
  refine va_sld hx hb hX hbl hbA hS (fm_in (by omega)) dL_law_1720 ?_
  refine lv_topi (fun x18 ex18 => ?_)
  have qx18 : x6 = x18 := by rw [ex18, ex6, ey17, ey5]
  clear ex18
  subst qx18
  refine lv_aload_n hx hb dL_law_1721 rfl (lv_at hl 3 rfl) ?_
  refine lv_iload_n hx hb dL_law_1722 rfl (lv_at hl 0 rfl) ?_
  refine lv_iconst (v := 4) hx hb dL_law_1723 (by decide) ?_
  refine fx_iadd hx hb dL_law_1724 rfl zk_4 (by omega) (fun y19 ey19 ty19 => ?_)
  refine va_sld hx hb hX hbl hbA hS (fm_in (by omega)) dL_law_1725 ?_
  refine lv_topi (fun x20 ex20 => ?_)
  have qx20 : x8 = x20 := by rw [ex20, ex8, ey19, ey7]
  clear ex20
  subst qx20
  refine lv_aload_n hx hb dL_law_1726 rfl (lv_at hl 3 rfl) ?_
  refine lv_iload_n hx hb dL_law_1727 rfl (lv_at hl 0 rfl) ?_
  refine lv_iconst (v := 5) hx hb dL_law_1728 (by decide) ?_
  refine fx_iadd hx hb dL_law_1729 rfl zk_5 (by omega) (fun y21 ey21 ty21 => ?_)
  refine va_sld hx hb hX hbl hbA hS (fm_in (by omega)) dL_law_1730 ?_
  refine lv_topi (fun x22 ex22 => ?_)
  have qx22 : x10 = x22 := by rw [ex22, ex10, ey21, ey9]
  clear ex22
  subst qx22
  refine fm_ci (va_runV (As := [.int x2, .int x4, .int x6, .int x8, .int x10]) (rest := []) ⟨hx, hb, hml, hown, hts⟩ (fc_X12_copy l D ad C nb M12 hI x2 x4 x6 x8 x10) (cwV 5 hts gL_law_X12_copy rfl rfl rfl (by decide +kernel) ⟨Nat.le_of_ble_eq_true rfl, Nat.le_of_ble_eq_true rfl⟩) (fm_preV hc hw hS kl_60 sh_60 rfl) rfl rfl hl.1 rfl (lv_room (Nat.le_of_ble_eq_true rfl)) dL_law_1731 ⟨hk1, hs1⟩) hS hc (fun r23 M24 H locs hr23 hw hS => ?_)
  obtain ⟨hI, hEM24, hr23⟩ := hr23
  refine lv_pop hx hb dL_law_1734 rfl ?_
  refine lv_goto (tgt := 1834) hx hb dL_law_1735 (by decide) ?_
  have hr90 : M24.1 0 0 10 = M24.1 60 0 16 := by rw [(hEM24 0 0 10 (by decide)).1, (hEM12 0 0 10 (by decide)).1, (hEM24 60 0 16 (by decide)).1, (hEM12 60 0 16 (by decide)).1]; exact hrel.1
  have hr91 : (∀ j : Nat, j < nb → M24.1 50 j 0 = M24.1 110 0 j) := fun j hj => by rw [(hEM24 50 j 0 (by decide)).1, (hEM12 50 j 0 (by decide)).1, (hEM24 110 0 j (by rw [cd_110]; decide)).1, (hEM12 110 0 j (by rw [cd_110]; decide)).1]; exact hrel.2.1 j hj
  have hr92 : (∀ j : Nat, j < nb → M24.1 50 j 3 = M24.1 113 0 j) := fun j hj => by rw [(hEM24 50 j 3 (by decide)).1, (hEM12 50 j 3 (by decide)).1, (hEM24 113 0 j (by rw [cd_113]; decide)).1, (hEM12 113 0 j (by rw [cd_113]; decide)).1]; exact hrel.2.2 j hj
  have hrel9 : M24.1 0 0 10 = M24.1 60 0 16 ∧ (∀ j : Nat, j < nb → M24.1 50 j 0 = M24.1 110 0 j) ∧ (∀ j : Nat, j < nb → M24.1 50 j 3 = M24.1 113 0 j) := ⟨hr90, hr91, hr92⟩
  exact kk M24 _ _ hw hI hS hrel9 ls (lv_sub hl [0, 1, 2, 3] rfl)
set_option maxHeartbeats 1000000 in
set_option maxRecDepth 20000 in
theorem lb_36 {p : Program} {l : Launch} {e : Env} {s : State} {m : MethodId} {below : List Frame} {meth : Method} {c : Code} {D : va_G} {ad : Nat → Nat → Nat} {C : Nat → Nat → ClassId} {nb : Nat} {M : fm_M} {b L : Nat} {xs : Nat → Int32} {H : Heap} {locs : List Loc} {kc sl : Nat} {i : Int32} (C0 : lw_At p s m meth c b L xs) (hkc : kc ≤ 10000) (hsl : sl ≤ 300000) (hc : fm_Cx D ad C nb (fun q : Nat => s.heap.size ≤ q) s) (hw : fm_at D ad C nb M H) (hI : fm_I nb ad M) (hS : va_S (fun q : Nat => s.heap.size ≤ q) s.heap H locs) (hi : 0 ≤ i.toInt ∧ i.toInt + 6 ≤ L) (hL : L ≤ 3072) (hrel : M.1 0 0 10 = M.1 60 0 16 ∧ (∀ j : Nat, j < nb → M.1 50 j 0 = M.1 110 0 j) ∧ (∀ j : Nat, j < nb → M.1 50 j 3 = M.1 113 0 j)) (kk : ∀ (M1 : fm_M) (H1 : Heap) (locs1 : List Loc), fm_at D ad C nb M1 H1 → fm_I nb ad M1 → va_S (fun q : Nat => s.heap.size ≤ q) s.heap H1 locs1 → M1.1 0 0 10 = M1.1 60 0 16 ∧ (∀ j : Nat, j < nb → M1.1 50 j 0 = M1.1 110 0 j) ∧ (∀ j : Nat, j < nb → M1.1 50 j 3 = M1.1 113 0 j) → ∀ ls : Array Slot, lv_has ls 4 [(3, .int i), (2, .ref (ad 60 0)), (1, .ref (ad 0 0)), (0, .ref b)] → W p l e room_1 s m #[Value.ref b] below meth c H1 locs1 kc sl (lw_Z below #[Value.ref b] s) (F0 m 1834 ls [])) (ls : Array Slot) (hl : lv_has ls 4 [(3, .int i), (2, .ref (ad 60 0)), (1, .ref (ad 0 0)), (0, .ref b)]) : W p l e room_1 s m #[Value.ref b] below meth c H locs kc sl (lw_Z below #[Value.ref b] s) (F0 m 1738 ls []) := by
  obtain ⟨hx, hb, hr, hml, hown, hts, hX, hbl, hlocks, hgv⟩ := id C0
  have hown : s.vm.findClass RL = some m.cls := hown
  have hb : c.code = cL_law := hb
  have hbA : ¬ (fun q : Nat => s.heap.size ≤ q) b := Nat.not_le.mpr hbl
  have hk1 : kc + 0 ≤ room_1.cells := by show kc + 0 ≤ 600000; omega
  have hs1 : sl + 0 ≤ room_1.slots := by show sl + 0 ≤ 7302250; omega
  have hI0 := hI
  refine lv_aload_n hx hb dL_law_1738 rfl (lv_at hl 2 rfl) ?_
  refine lv_aload_n hx hb dL_law_1739 rfl (lv_at hl 3 rfl) ?_
  refine lv_iload_n hx hb dL_law_1740 rfl (lv_at hl 0 rfl) ?_
  refine lv_iconst (v := 1) hx hb dL_law_1741 (by decide) ?_
  refine fx_iadd hx hb dL_law_1742 rfl zk_1 (by omega) (fun y1 ey1 ty1 => ?_)
  refine va_sld hx hb hX hbl hbA hS (fm_in (by omega)) dL_law_1743 ?_
  refine lv_topi (fun x2 ex2 => ?_)
  refine lv_aload_n hx hb dL_law_1744 rfl (lv_at hl 3 rfl) ?_
  refine lv_iload_n hx hb dL_law_1745 rfl (lv_at hl 0 rfl) ?_
  refine lv_iconst (v := 2) hx hb dL_law_1746 (by decide) ?_
  refine fx_iadd hx hb dL_law_1747 rfl zk_2 (by omega) (fun y3 ey3 ty3 => ?_)
  refine va_sld hx hb hX hbl hbA hS (fm_in (by omega)) dL_law_1748 ?_
  refine lv_topi (fun x4 ex4 => ?_)
  refine lv_aload_n hx hb dL_law_1749 rfl (lv_at hl 3 rfl) ?_
  refine lv_iload_n hx hb dL_law_1750 rfl (lv_at hl 0 rfl) ?_
  refine lv_iconst (v := 3) hx hb dL_law_1751 (by decide) ?_
  refine fx_iadd hx hb dL_law_1752 rfl zk_3 (by omega) (fun y5 ey5 ty5 => ?_)
  refine va_sld hx hb hX hbl hbA hS (fm_in (by omega)) dL_law_1753 ?_
  refine lv_topi (fun x6 ex6 => ?_)
  refine lv_aload_n hx hb dL_law_1754 rfl (lv_at hl 3 rfl) ?_
  refine lv_iload_n hx hb dL_law_1755 rfl (lv_at hl 0 rfl) ?_
  refine lv_iconst (v := 4) hx hb dL_law_1756 (by decide) ?_
  refine fx_iadd hx hb dL_law_1757 rfl zk_4 (by omega) (fun y7 ey7 ty7 => ?_)
  refine va_sld hx hb hX hbl hbA hS (fm_in (by omega)) dL_law_1758 ?_
  refine lv_topi (fun x8 ex8 => ?_)
  refine lv_aload_n hx hb dL_law_1759 rfl (lv_at hl 3 rfl) ?_
  refine lv_iload_n hx hb dL_law_1760 rfl (lv_at hl 0 rfl) ?_
  refine lv_iconst (v := 5) hx hb dL_law_1761 (by decide) ?_
  refine fx_iadd hx hb dL_law_1762 rfl zk_5 (by omega) (fun y9 ey9 ty9 => ?_)
  refine va_sld hx hb hX hbl hbA hS (fm_in (by omega)) dL_law_1763 ?_
  refine lv_topi (fun x10 ex10 => ?_)
  refine fm_ci (va_runV (As := [.int x2, .int x4, .int x6, .int x8, .int x10]) (rest := []) ⟨hx, hb, hml, hown, hts⟩ (fc_X11_fixes l D ad C nb M hI x2 x4 x6 x8 x10) (cwV 5 hts gL_law_X11_fixes rfl rfl rfl (by decide +kernel) ⟨Nat.le_of_ble_eq_true rfl, Nat.le_of_ble_eq_true rfl⟩) (fm_preV hc hw hS kl_0 sh_0 rfl) rfl rfl hl.1 rfl (lv_room (Nat.le_of_ble_eq_true rfl)) dL_law_1764 ⟨hk1, hs1⟩) hS hc (fun r11 M12 H locs hr11 hw hS => ?_)
  obtain ⟨hI, hEM12, hr11⟩ := hr11
  refine lv_pop hx hb dL_law_1767 rfl ?_
  refine lv_aload_n hx hb dL_law_1768 rfl (lv_at hl 1 rfl) ?_
  refine lv_aload_n hx hb dL_law_1769 rfl (lv_at hl 3 rfl) ?_
  refine lv_iload_n hx hb dL_law_1770 rfl (lv_at hl 0 rfl) ?_
  refine lv_iconst (v := 1) hx hb dL_law_1771 (by decide) ?_
  refine fx_iadd hx hb dL_law_1772 rfl zk_1 (by omega) (fun y13 ey13 ty13 => ?_)
  refine va_sld hx hb hX hbl hbA hS (fm_in (by omega)) dL_law_1773 ?_
  refine lv_topi (fun x14 ex14 => ?_)
  have qx14 : x2 = x14 := by rw [ex14, ex2, ey13, ey1]
  clear ex14
  subst qx14
  refine lv_aload_n hx hb dL_law_1774 rfl (lv_at hl 3 rfl) ?_
  refine lv_iload_n hx hb dL_law_1775 rfl (lv_at hl 0 rfl) ?_
  refine lv_iconst (v := 2) hx hb dL_law_1776 (by decide) ?_
  refine fx_iadd hx hb dL_law_1777 rfl zk_2 (by omega) (fun y15 ey15 ty15 => ?_)
  refine va_sld hx hb hX hbl hbA hS (fm_in (by omega)) dL_law_1778 ?_
  refine lv_topi (fun x16 ex16 => ?_)
  have qx16 : x4 = x16 := by rw [ex16, ex4, ey15, ey3]
  clear ex16
  subst qx16
  refine lv_aload_n hx hb dL_law_1779 rfl (lv_at hl 3 rfl) ?_
  refine lv_iload_n hx hb dL_law_1780 rfl (lv_at hl 0 rfl) ?_
  refine lv_iconst (v := 3) hx hb dL_law_1781 (by decide) ?_
  refine fx_iadd hx hb dL_law_1782 rfl zk_3 (by omega) (fun y17 ey17 ty17 => ?_)
  refine va_sld hx hb hX hbl hbA hS (fm_in (by omega)) dL_law_1783 ?_
  refine lv_topi (fun x18 ex18 => ?_)
  have qx18 : x6 = x18 := by rw [ex18, ex6, ey17, ey5]
  clear ex18
  subst qx18
  refine lv_aload_n hx hb dL_law_1784 rfl (lv_at hl 3 rfl) ?_
  refine lv_iload_n hx hb dL_law_1785 rfl (lv_at hl 0 rfl) ?_
  refine lv_iconst (v := 4) hx hb dL_law_1786 (by decide) ?_
  refine fx_iadd hx hb dL_law_1787 rfl zk_4 (by omega) (fun y19 ey19 ty19 => ?_)
  refine va_sld hx hb hX hbl hbA hS (fm_in (by omega)) dL_law_1788 ?_
  refine lv_topi (fun x20 ex20 => ?_)
  have qx20 : x8 = x20 := by rw [ex20, ex8, ey19, ey7]
  clear ex20
  subst qx20
  refine lv_aload_n hx hb dL_law_1789 rfl (lv_at hl 3 rfl) ?_
  refine lv_iload_n hx hb dL_law_1790 rfl (lv_at hl 0 rfl) ?_
  refine lv_iconst (v := 5) hx hb dL_law_1791 (by decide) ?_
  refine fx_iadd hx hb dL_law_1792 rfl zk_5 (by omega) (fun y21 ey21 ty21 => ?_)
  refine va_sld hx hb hX hbl hbA hS (fm_in (by omega)) dL_law_1793 ?_
  refine lv_topi (fun x22 ex22 => ?_)
  have qx22 : x10 = x22 := by rw [ex22, ex10, ey21, ey9]
  clear ex22
  subst qx22
  refine fm_ci (va_runV (As := [.int x2, .int x4, .int x6, .int x8, .int x10]) (rest := []) ⟨hx, hb, hml, hown, hts⟩ (fc_X12_fixes l D ad C nb M12 hI x2 x4 x6 x8 x10) (cwV 5 hts gL_law_X12_fixes rfl rfl rfl (by decide +kernel) ⟨Nat.le_of_ble_eq_true rfl, Nat.le_of_ble_eq_true rfl⟩) (fm_preV hc hw hS kl_60 sh_60 rfl) rfl rfl hl.1 rfl (lv_room (Nat.le_of_ble_eq_true rfl)) dL_law_1794 ⟨hk1, hs1⟩) hS hc (fun r23 M24 H locs hr23 hw hS => ?_)
  obtain ⟨hI, hEM24, hr23⟩ := hr23
  refine lv_pop hx hb dL_law_1797 rfl ?_
  refine lv_goto (tgt := 1834) hx hb dL_law_1798 (by decide) ?_
  have hr90 : M24.1 0 0 10 = M24.1 60 0 16 := by rw [(hEM24 0 0 10 (by decide)).1, (hEM12 0 0 10 (by decide)).1, (hEM24 60 0 16 (by decide)).1, (hEM12 60 0 16 (by decide)).1]; exact hrel.1
  have hr91 : (∀ j : Nat, j < nb → M24.1 50 j 0 = M24.1 110 0 j) := fun j hj => by rw [(hEM24 50 j 0 (by decide)).1, (hEM12 50 j 0 (by decide)).1, (hEM24 110 0 j (by rw [cd_110]; decide)).1, (hEM12 110 0 j (by rw [cd_110]; decide)).1]; exact hrel.2.1 j hj
  have hr92 : (∀ j : Nat, j < nb → M24.1 50 j 3 = M24.1 113 0 j) := fun j hj => by rw [(hEM24 50 j 3 (by decide)).1, (hEM12 50 j 3 (by decide)).1, (hEM24 113 0 j (by rw [cd_113]; decide)).1, (hEM12 113 0 j (by rw [cd_113]; decide)).1]; exact hrel.2.2 j hj
  have hrel9 : M24.1 0 0 10 = M24.1 60 0 16 ∧ (∀ j : Nat, j < nb → M24.1 50 j 0 = M24.1 110 0 j) ∧ (∀ j : Nat, j < nb → M24.1 50 j 3 = M24.1 113 0 j) := ⟨hr90, hr91, hr92⟩
  exact kk M24 _ _ hw hI hS hrel9 ls (lv_sub hl [0, 1, 2, 3] rfl)
set_option maxHeartbeats 1000000 in
set_option maxRecDepth 20000 in
theorem lb_37 {p : Program} {l : Launch} {e : Env} {s : State} {m : MethodId} {below : List Frame} {meth : Method} {c : Code} {D : va_G} {ad : Nat → Nat → Nat} {C : Nat → Nat → ClassId} {nb : Nat} {M : fm_M} {b L : Nat} {xs : Nat → Int32} {H : Heap} {locs : List Loc} {kc sl : Nat} {i : Int32} (C0 : lw_At p s m meth c b L xs) (hkc : kc ≤ 10000) (hsl : sl ≤ 300000) (hc : fm_Cx D ad C nb (fun q : Nat => s.heap.size ≤ q) s) (hw : fm_at D ad C nb M H) (hI : fm_I nb ad M) (hS : va_S (fun q : Nat => s.heap.size ≤ q) s.heap H locs) (hi : 0 ≤ i.toInt ∧ i.toInt + 6 ≤ L) (hL : L ≤ 3072) (hrel : M.1 0 0 10 = M.1 60 0 16 ∧ (∀ j : Nat, j < nb → M.1 50 j 0 = M.1 110 0 j) ∧ (∀ j : Nat, j < nb → M.1 50 j 3 = M.1 113 0 j)) (kk : ∀ (M1 : fm_M) (H1 : Heap) (locs1 : List Loc), fm_at D ad C nb M1 H1 → fm_I nb ad M1 → va_S (fun q : Nat => s.heap.size ≤ q) s.heap H1 locs1 → M1.1 0 0 10 = M1.1 60 0 16 ∧ (∀ j : Nat, j < nb → M1.1 50 j 0 = M1.1 110 0 j) ∧ (∀ j : Nat, j < nb → M1.1 50 j 3 = M1.1 113 0 j) → ∀ ls : Array Slot, lv_has ls 4 [(3, .int i), (2, .ref (ad 60 0)), (1, .ref (ad 0 0)), (0, .ref b)] → W p l e room_1 s m #[Value.ref b] below meth c H1 locs1 kc sl (lw_Z below #[Value.ref b] s) (F0 m 1834 ls [])) (ls : Array Slot) (hl : lv_has ls 4 [(3, .int i), (2, .ref (ad 60 0)), (1, .ref (ad 0 0)), (0, .ref b)]) : W p l e room_1 s m #[Value.ref b] below meth c H locs kc sl (lw_Z below #[Value.ref b] s) (F0 m 1801 ls []) := by
  obtain ⟨hx, hb, hr, hml, hown, hts, hX, hbl, hlocks, hgv⟩ := id C0
  have hown : s.vm.findClass RL = some m.cls := hown
  have hb : c.code = cL_law := hb
  have hbA : ¬ (fun q : Nat => s.heap.size ≤ q) b := Nat.not_le.mpr hbl
  have hk1 : kc + 0 ≤ room_1.cells := by show kc + 0 ≤ 600000; omega
  have hs1 : sl + 0 ≤ room_1.slots := by show sl + 0 ≤ 7302250; omega
  have hI0 := hI
  refine lv_aload_n hx hb dL_law_1801 rfl (lv_at hl 2 rfl) ?_
  refine lv_aload_n hx hb dL_law_1802 rfl (lv_at hl 3 rfl) ?_
  refine lv_iload_n hx hb dL_law_1803 rfl (lv_at hl 0 rfl) ?_
  refine lv_iconst (v := 1) hx hb dL_law_1804 (by decide) ?_
  refine fx_iadd hx hb dL_law_1805 rfl zk_1 (by omega) (fun y1 ey1 ty1 => ?_)
  refine va_sld hx hb hX hbl hbA hS (fm_in (by omega)) dL_law_1806 ?_
  refine lv_topi (fun x2 ex2 => ?_)
  refine lv_aload_n hx hb dL_law_1807 rfl (lv_at hl 3 rfl) ?_
  refine lv_iload_n hx hb dL_law_1808 rfl (lv_at hl 0 rfl) ?_
  refine lv_iconst (v := 2) hx hb dL_law_1809 (by decide) ?_
  refine fx_iadd hx hb dL_law_1810 rfl zk_2 (by omega) (fun y3 ey3 ty3 => ?_)
  refine va_sld hx hb hX hbl hbA hS (fm_in (by omega)) dL_law_1811 ?_
  refine lv_topi (fun x4 ex4 => ?_)
  refine vp_callSi (va_Run.run (va_runV (As := [.int x2, .int x4]) (rest := []) ⟨hx, hb, hml, hown, hts⟩ (fc_X11_taken l D ad C nb M hI x2 x4) (cwV 2 hts gL_law_X11_taken rfl rfl rfl (by decide +kernel) ⟨Nat.le_of_ble_eq_true rfl, Nat.le_of_ble_eq_true rfl⟩) (fm_preV hc hw hS kl_0 sh_0 rfl) rfl rfl hl.1 rfl (lv_room (Nat.le_of_ble_eq_true rfl)) dL_law_1812 ⟨hk1, hs1⟩)) (fun r5 hr5 => ?_)
  refine lv_aload_n hx hb dL_law_1815 rfl (lv_at hl 1 rfl) ?_
  refine lv_aload_n hx hb dL_law_1816 rfl (lv_at hl 3 rfl) ?_
  refine lv_iload_n hx hb dL_law_1817 rfl (lv_at hl 0 rfl) ?_
  refine lv_iconst (v := 1) hx hb dL_law_1818 (by decide) ?_
  refine fx_iadd hx hb dL_law_1819 rfl zk_1 (by omega) (fun y6 ey6 ty6 => ?_)
  refine va_sld hx hb hX hbl hbA hS (fm_in (by omega)) dL_law_1820 ?_
  refine lv_topi (fun x7 ex7 => ?_)
  have qx7 : x2 = x7 := by rw [ex7, ex2, ey6, ey1]
  clear ex7
  subst qx7
  refine lv_aload_n hx hb dL_law_1821 rfl (lv_at hl 3 rfl) ?_
  refine lv_iload_n hx hb dL_law_1822 rfl (lv_at hl 0 rfl) ?_
  refine lv_iconst (v := 2) hx hb dL_law_1823 (by decide) ?_
  refine fx_iadd hx hb dL_law_1824 rfl zk_2 (by omega) (fun y8 ey8 ty8 => ?_)
  refine va_sld hx hb hX hbl hbA hS (fm_in (by omega)) dL_law_1825 ?_
  refine lv_topi (fun x9 ex9 => ?_)
  have qx9 : x4 = x9 := by rw [ex9, ex4, ey8, ey3]
  clear ex9
  subst qx9
  refine vp_callSi (va_Run.run (va_runV (As := [.int x2, .int x4]) (rest := [.int r5]) ⟨hx, hb, hml, hown, hts⟩ (fc_X12_taken l D ad C nb M hI x2 x4) (cwV 2 hts gL_law_X12_taken rfl rfl rfl (by decide +kernel) ⟨Nat.le_of_ble_eq_true rfl, Nat.le_of_ble_eq_true rfl⟩) (fm_preV hc hw hS kl_60 sh_60 rfl) rfl rfl hl.1 rfl (lv_room (Nat.le_of_ble_eq_true rfl)) dL_law_1826 ⟨hk1, hs1⟩)) (fun r10 hr10 => ?_)
  have f10 : (M.1 60 0 16).toInt = (M.1 0 0 10).toInt := by rw [hrel.1]
  have f50 := hI0.bd (k := 0) bd_0_10
  have hn9 : (M.1 0 0 10).toInt = nb := hI0.2.2.2.2.2.2.1
  have g1p0 : ¬ (0 ≤ x2.toInt ∧ x2.toInt < nb) ∨ (M.1 110 0 x2.toNatClampNeg).toInt = (M.1 50 x2.toNatClampNeg 0).toInt := by
    by_cases h9 : 0 ≤ x2.toInt ∧ x2.toInt < nb
    · exact Or.inr (by rw [hrel.2.1 _ (zi_cln h9)])
    · exact Or.inl h9
  have g2p0 : ¬ (0 ≤ x2.toInt ∧ x2.toInt < nb) ∨ (M.1 113 0 x2.toNatClampNeg).toInt = (M.1 50 x2.toNatClampNeg 3).toInt := by
    by_cases h9 : 0 ≤ x2.toInt ∧ x2.toInt < nb
    · exact Or.inr (by rw [hrel.2.2 _ (zi_cln h9)])
    · exact Or.inl h9
  have e3 : r5.toInt = r10.toInt ∧ (0 : Int) = 0 := by
    rcases hr5 with ⟨a0, a1⟩ | ⟨a0, a1, a2⟩ | ⟨a0, a1, a2, a3⟩ | ⟨a0, a1, a2, a3⟩ <;> rcases hr10 with ⟨g0, g1⟩ | ⟨g0, g1, g2⟩ | ⟨g0, g1, g2, g3⟩ | ⟨g0, g1, g2, g3⟩ <;> (first | contradiction | omega)
  have hr90 : M.1 0 0 10 = M.1 60 0 16 := hrel.1
  have hr91 : (∀ j : Nat, j < nb → M.1 50 j 0 = M.1 110 0 j) := fun j hj => by exact hrel.2.1 j hj
  have hr92 : (∀ j : Nat, j < nb → M.1 50 j 3 = M.1 113 0 j) := fun j hj => by exact hrel.2.2 j hj
  have hrel9 : M.1 0 0 10 = M.1 60 0 16 ∧ (∀ j : Nat, j < nb → M.1 50 j 0 = M.1 110 0 j) ∧ (∀ j : Nat, j < nb → M.1 50 j 3 = M.1 113 0 j) := ⟨hr90, hr91, hr92⟩
  refine fx_icmp_eq (tgt := 1834) hx hb dL_law_1829 (by decide) rfl rfl (fun _ => ?_) (fun c9 => absurd e3.1 c9)
  exact kk M _ _ hw hI hS hrel9 ls (lv_sub hl [0, 1, 2, 3] rfl)

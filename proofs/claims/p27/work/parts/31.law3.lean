theorem ck_L_law_89_31law3 : ((cL_law.data.toList).drop 1424).take 16 = [157, 43, 182, 0, 138, 87, 44, 182, 0, 141, 87, 167, 1, 144, 43, 42] := by decide +kernel
theorem ck_L_law_90_31law3 : ((cL_law.data.toList).drop 1440).take 16 = [29, 4, 96, 46, 42, 29, 5, 96, 46, 182, 0, 142, 87, 44, 42, 29] := by decide +kernel
theorem ck_L_law_91_31law3 : ((cL_law.data.toList).drop 1456).take 16 = [4, 96, 46, 42, 29, 5, 96, 46, 182, 0, 145, 87, 167, 1, 111, 43] := by decide +kernel
theorem ck_L_law_92_31law3 : ((cL_law.data.toList).drop 1472).take 16 = [42, 29, 4, 96, 46, 133, 16, 32, 121, 42, 29, 5, 96, 46, 133, 20] := by decide +kernel
theorem ck_L_law_93_31law3 : ((cL_law.data.toList).drop 1488).take 16 = [0, 42, 127, 129, 182, 0, 146, 87, 44, 42, 29, 4, 96, 46, 133, 16] := by decide +kernel
theorem ck_L_law_94_31law3 : ((cL_law.data.toList).drop 1504).take 16 = [32, 121, 42, 29, 5, 96, 46, 133, 20, 0, 42, 127, 129, 182, 0, 149] := by decide +kernel
theorem ck_L_law_95_31law3 : ((cL_law.data.toList).drop 1520).take 16 = [87, 167, 1, 58, 43, 42, 29, 4, 96, 46, 42, 29, 5, 96, 46, 42] := by decide +kernel
theorem ck_L_law_96_31law3 : ((cL_law.data.toList).drop 1536).take 16 = [29, 6, 96, 46, 182, 0, 150, 87, 44, 42, 29, 4, 96, 46, 42, 29] := by decide +kernel
theorem ck_L_law_97_31law3 : ((cL_law.data.toList).drop 1552).take 16 = [5, 96, 46, 42, 29, 6, 96, 46, 182, 0, 153, 87, 167, 1, 15, 43] := by decide +kernel
theorem ck_L_law_98_31law3 : ((cL_law.data.toList).drop 1568).take 16 = [42, 29, 4, 96, 46, 182, 0, 154, 87, 44, 42, 29, 4, 96, 46, 182] := by decide +kernel
theorem ck_L_law_99_31law3 : ((cL_law.data.toList).drop 1584).take 16 = [0, 157, 87, 167, 0, 248, 43, 42, 29, 4, 96, 46, 42, 29, 5, 96] := by decide +kernel
theorem ck_L_law_100_31law3 : ((cL_law.data.toList).drop 1600).take 16 = [46, 42, 29, 6, 96, 46, 182, 0, 158, 87, 44, 42, 29, 4, 96, 46] := by decide +kernel
theorem ck_L_law_101_31law3 : ((cL_law.data.toList).drop 1616).take 16 = [42, 29, 5, 96, 46, 42, 29, 6, 96, 46, 182, 0, 161, 87, 167, 0] := by decide +kernel
theorem ck_L_law_102_31law3 : ((cL_law.data.toList).drop 1632).take 16 = [205, 43, 42, 29, 4, 96, 46, 42, 29, 5, 96, 46, 42, 29, 6, 96] := by decide +kernel
theorem ck_L_law_103_31law3 : ((cL_law.data.toList).drop 1648).take 16 = [46, 182, 0, 162, 87, 44, 42, 29, 4, 96, 46, 42, 29, 5, 96, 46] := by decide +kernel
theorem ck_L_law_104_31law3 : ((cL_law.data.toList).drop 1664).take 16 = [42, 29, 6, 96, 46, 182, 0, 165, 87, 167, 0, 162, 43, 42, 29, 4] := by decide +kernel
theorem ck_L_law_105_31law3 : ((cL_law.data.toList).drop 1680).take 16 = [96, 46, 42, 29, 5, 96, 46, 42, 29, 6, 96, 46, 42, 29, 7, 96] := by decide +kernel
theorem ck_L_law_106_31law3 : ((cL_law.data.toList).drop 1696).take 16 = [46, 42, 29, 8, 96, 46, 182, 0, 166, 87, 44, 42, 29, 4, 96, 46] := by decide +kernel
theorem ck_L_law_107_31law3 : ((cL_law.data.toList).drop 1712).take 16 = [42, 29, 5, 96, 46, 42, 29, 6, 96, 46, 42, 29, 7, 96, 46, 42] := by decide +kernel
theorem ck_L_law_108_31law3 : ((cL_law.data.toList).drop 1728).take 16 = [29, 8, 96, 46, 182, 0, 169, 87, 167, 0, 99, 43, 42, 29, 4, 96] := by decide +kernel
theorem ck_L_law_109_31law3 : ((cL_law.data.toList).drop 1744).take 16 = [46, 42, 29, 5, 96, 46, 42, 29, 6, 96, 46, 42, 29, 7, 96, 46] := by decide +kernel
theorem ck_L_law_110_31law3 : ((cL_law.data.toList).drop 1760).take 16 = [42, 29, 8, 96, 46, 182, 0, 170, 87, 44, 42, 29, 4, 96, 46, 42] := by decide +kernel
theorem ck_L_law_111_31law3 : ((cL_law.data.toList).drop 1776).take 16 = [29, 5, 96, 46, 42, 29, 6, 96, 46, 42, 29, 7, 96, 46, 42, 29] := by decide +kernel
theorem ck_L_law_112_31law3 : ((cL_law.data.toList).drop 1792).take 16 = [8, 96, 46, 182, 0, 173, 87, 167, 0, 36, 43, 42, 29, 4, 96, 46] := by decide +kernel
theorem ck_L_law_113_31law3 : ((cL_law.data.toList).drop 1808).take 16 = [42, 29, 5, 96, 46, 182, 0, 174, 87, 44, 42, 29, 4, 96, 46, 42] := by decide +kernel
theorem ck_L_law_114_31law3 : ((cL_law.data.toList).drop 1824).take 16 = [29, 5, 96, 46, 182, 0, 177, 87, 167, 0, 3, 132, 3, 6, 167, 248] := by decide +kernel
theorem dL_law_1438 : decode cL_law 1438 = .ok (.aload_n 1, 1) := dk_0 (dk_k43 1438) (dk_by (j := 14) rfl ck_L_law_89_31law3 rfl rfl rfl)
theorem dL_law_1439 : decode cL_law 1439 = .ok (.aload_n 0, 1) := dk_0 (dk_k42 1439) (dk_by (j := 15) rfl ck_L_law_89_31law3 rfl rfl rfl)
theorem dL_law_1440 : decode cL_law 1440 = .ok (.iload_n 3, 1) := dk_0 (dk_k29 1440) (dk_by (j := 0) rfl ck_L_law_90_31law3 rfl rfl rfl)
theorem dL_law_1441 : decode cL_law 1441 = .ok (.iconst 1, 1) := dk_0 (dk_k4 1441) (dk_by (j := 1) rfl ck_L_law_90_31law3 rfl rfl rfl)
theorem dL_law_1442 : decode cL_law 1442 = .ok (.iadd, 1) := dk_0 (dk_k96 1442) (dk_by (j := 2) rfl ck_L_law_90_31law3 rfl rfl rfl)
theorem dL_law_1443 : decode cL_law 1443 = .ok (.iaload, 1) := dk_0 (dk_k46 1443) (dk_by (j := 3) rfl ck_L_law_90_31law3 rfl rfl rfl)
theorem dL_law_1444 : decode cL_law 1444 = .ok (.aload_n 0, 1) := dk_0 (dk_k42 1444) (dk_by (j := 4) rfl ck_L_law_90_31law3 rfl rfl rfl)
theorem dL_law_1445 : decode cL_law 1445 = .ok (.iload_n 3, 1) := dk_0 (dk_k29 1445) (dk_by (j := 5) rfl ck_L_law_90_31law3 rfl rfl rfl)
theorem dL_law_1446 : decode cL_law 1446 = .ok (.iconst 2, 1) := dk_0 (dk_k5 1446) (dk_by (j := 6) rfl ck_L_law_90_31law3 rfl rfl rfl)
theorem dL_law_1447 : decode cL_law 1447 = .ok (.iadd, 1) := dk_0 (dk_k96 1447) (dk_by (j := 7) rfl ck_L_law_90_31law3 rfl rfl rfl)
theorem dL_law_1448 : decode cL_law 1448 = .ok (.iaload, 1) := dk_0 (dk_k46 1448) (dk_by (j := 8) rfl ck_L_law_90_31law3 rfl rfl rfl)
theorem gL_law_X11_clash : GoodIn lw_tbl (wsV RL 142 RX11 yX11_clash wsX11_clash) := ru_gL (ru_gV tw_5_22 tw_5_23 tw_5_24 tw_1_1 mT_X11_clash)
theorem dL_law_1449 : decode cL_law 1449 = .ok (.invokevirtual 142, 3) := dk_2 (dk_k182 1449) (dk_by (j := 9) rfl ck_L_law_90_31law3 rfl rfl rfl) (dk_by (j := 10) rfl ck_L_law_90_31law3 rfl rfl rfl) (dk_by (j := 11) rfl ck_L_law_90_31law3 rfl rfl rfl) (by decide)
theorem dL_law_1452 : decode cL_law 1452 = .ok (.pop, 1) := dk_0 (dk_k87 1452) (dk_by (j := 12) rfl ck_L_law_90_31law3 rfl rfl rfl)
theorem dL_law_1453 : decode cL_law 1453 = .ok (.aload_n 2, 1) := dk_0 (dk_k44 1453) (dk_by (j := 13) rfl ck_L_law_90_31law3 rfl rfl rfl)
theorem dL_law_1454 : decode cL_law 1454 = .ok (.aload_n 0, 1) := dk_0 (dk_k42 1454) (dk_by (j := 14) rfl ck_L_law_90_31law3 rfl rfl rfl)
theorem dL_law_1455 : decode cL_law 1455 = .ok (.iload_n 3, 1) := dk_0 (dk_k29 1455) (dk_by (j := 15) rfl ck_L_law_90_31law3 rfl rfl rfl)
theorem dL_law_1456 : decode cL_law 1456 = .ok (.iconst 1, 1) := dk_0 (dk_k4 1456) (dk_by (j := 0) rfl ck_L_law_91_31law3 rfl rfl rfl)
theorem dL_law_1457 : decode cL_law 1457 = .ok (.iadd, 1) := dk_0 (dk_k96 1457) (dk_by (j := 1) rfl ck_L_law_91_31law3 rfl rfl rfl)
theorem dL_law_1458 : decode cL_law 1458 = .ok (.iaload, 1) := dk_0 (dk_k46 1458) (dk_by (j := 2) rfl ck_L_law_91_31law3 rfl rfl rfl)
theorem dL_law_1459 : decode cL_law 1459 = .ok (.aload_n 0, 1) := dk_0 (dk_k42 1459) (dk_by (j := 3) rfl ck_L_law_91_31law3 rfl rfl rfl)
theorem dL_law_1460 : decode cL_law 1460 = .ok (.iload_n 3, 1) := dk_0 (dk_k29 1460) (dk_by (j := 4) rfl ck_L_law_91_31law3 rfl rfl rfl)
theorem dL_law_1461 : decode cL_law 1461 = .ok (.iconst 2, 1) := dk_0 (dk_k5 1461) (dk_by (j := 5) rfl ck_L_law_91_31law3 rfl rfl rfl)
theorem dL_law_1462 : decode cL_law 1462 = .ok (.iadd, 1) := dk_0 (dk_k96 1462) (dk_by (j := 6) rfl ck_L_law_91_31law3 rfl rfl rfl)
theorem dL_law_1463 : decode cL_law 1463 = .ok (.iaload, 1) := dk_0 (dk_k46 1463) (dk_by (j := 7) rfl ck_L_law_91_31law3 rfl rfl rfl)
theorem gL_law_X12_clash : GoodIn lw_tbl (wsV RL 145 RX12 yX12_clash wsX12_clash) := ru_gL (ru_gV tw_7_174 tw_7_175 tw_7_176 tw_1_12 mT_X12_clash)
theorem dL_law_1464 : decode cL_law 1464 = .ok (.invokevirtual 145, 3) := dk_2 (dk_k182 1464) (dk_by (j := 8) rfl ck_L_law_91_31law3 rfl rfl rfl) (dk_by (j := 9) rfl ck_L_law_91_31law3 rfl rfl rfl) (dk_by (j := 10) rfl ck_L_law_91_31law3 rfl rfl rfl) (by decide)
theorem dL_law_1467 : decode cL_law 1467 = .ok (.pop, 1) := dk_0 (dk_k87 1467) (dk_by (j := 11) rfl ck_L_law_91_31law3 rfl rfl rfl)
theorem dL_law_1468 : decode cL_law 1468 = .ok (.goto 367, 3) := dk_s (dk_k167 1468) (dk_by (j := 12) rfl ck_L_law_91_31law3 rfl rfl rfl) (dk_by (j := 13) rfl ck_L_law_91_31law3 rfl rfl rfl) (dk_by (j := 14) rfl ck_L_law_91_31law3 rfl rfl rfl) (by decide)
theorem dL_law_1471 : decode cL_law 1471 = .ok (.aload_n 1, 1) := dk_0 (dk_k43 1471) (dk_by (j := 15) rfl ck_L_law_91_31law3 rfl rfl rfl)
theorem dL_law_1472 : decode cL_law 1472 = .ok (.aload_n 0, 1) := dk_0 (dk_k42 1472) (dk_by (j := 0) rfl ck_L_law_92_31law3 rfl rfl rfl)
theorem dL_law_1473 : decode cL_law 1473 = .ok (.iload_n 3, 1) := dk_0 (dk_k29 1473) (dk_by (j := 1) rfl ck_L_law_92_31law3 rfl rfl rfl)
theorem dL_law_1474 : decode cL_law 1474 = .ok (.iconst 1, 1) := dk_0 (dk_k4 1474) (dk_by (j := 2) rfl ck_L_law_92_31law3 rfl rfl rfl)
theorem dL_law_1475 : decode cL_law 1475 = .ok (.iadd, 1) := dk_0 (dk_k96 1475) (dk_by (j := 3) rfl ck_L_law_92_31law3 rfl rfl rfl)
theorem dL_law_1476 : decode cL_law 1476 = .ok (.iaload, 1) := dk_0 (dk_k46 1476) (dk_by (j := 4) rfl ck_L_law_92_31law3 rfl rfl rfl)
theorem dL_law_1477 : decode cL_law 1477 = .ok (.i2l, 1) := dk_0 (dk_k133 1477) (dk_by (j := 5) rfl ck_L_law_92_31law3 rfl rfl rfl)
theorem dL_law_1478 : decode cL_law 1478 = .ok (.bipush 32, 2) := dk_1 (dk_k16 1478) (dk_by (j := 6) rfl ck_L_law_92_31law3 rfl rfl rfl) (dk_by (j := 7) rfl ck_L_law_92_31law3 rfl rfl rfl) (by decide)
theorem dL_law_1480 : decode cL_law 1480 = .ok (.lshl, 1) := dk_0 (dk_k121 1480) (dk_by (j := 8) rfl ck_L_law_92_31law3 rfl rfl rfl)
theorem dL_law_1481 : decode cL_law 1481 = .ok (.aload_n 0, 1) := dk_0 (dk_k42 1481) (dk_by (j := 9) rfl ck_L_law_92_31law3 rfl rfl rfl)
theorem dL_law_1482 : decode cL_law 1482 = .ok (.iload_n 3, 1) := dk_0 (dk_k29 1482) (dk_by (j := 10) rfl ck_L_law_92_31law3 rfl rfl rfl)
theorem dL_law_1483 : decode cL_law 1483 = .ok (.iconst 2, 1) := dk_0 (dk_k5 1483) (dk_by (j := 11) rfl ck_L_law_92_31law3 rfl rfl rfl)
theorem dL_law_1484 : decode cL_law 1484 = .ok (.iadd, 1) := dk_0 (dk_k96 1484) (dk_by (j := 12) rfl ck_L_law_92_31law3 rfl rfl rfl)
theorem dL_law_1485 : decode cL_law 1485 = .ok (.iaload, 1) := dk_0 (dk_k46 1485) (dk_by (j := 13) rfl ck_L_law_92_31law3 rfl rfl rfl)
theorem dL_law_1486 : decode cL_law 1486 = .ok (.i2l, 1) := dk_0 (dk_k133 1486) (dk_by (j := 14) rfl ck_L_law_92_31law3 rfl rfl rfl)
theorem dL_law_1487 : decode cL_law 1487 = .ok (.ldc2_w 42, 3) := dk_2 (dk_k20 1487) (dk_by (j := 15) rfl ck_L_law_92_31law3 rfl rfl rfl) (dk_by (j := 0) rfl ck_L_law_93_31law3 rfl rfl rfl) (dk_by (j := 1) rfl ck_L_law_93_31law3 rfl rfl rfl) (by decide)
theorem dL_law_1490 : decode cL_law 1490 = .ok (.land, 1) := dk_0 (dk_k127 1490) (dk_by (j := 2) rfl ck_L_law_93_31law3 rfl rfl rfl)
theorem dL_law_1491 : decode cL_law 1491 = .ok (.lor, 1) := dk_0 (dk_k129 1491) (dk_by (j := 3) rfl ck_L_law_93_31law3 rfl rfl rfl)
theorem gL_law_X11_row : GoodIn lw_tbl (wsV RL 146 RX11 yX11_row wsX11_row) := ru_gL (ru_gV tw_5_31 tw_5_32 tw_5_33 tw_1_1 mT_X11_row)
theorem dL_law_1492 : decode cL_law 1492 = .ok (.invokevirtual 146, 3) := dk_2 (dk_k182 1492) (dk_by (j := 4) rfl ck_L_law_93_31law3 rfl rfl rfl) (dk_by (j := 5) rfl ck_L_law_93_31law3 rfl rfl rfl) (dk_by (j := 6) rfl ck_L_law_93_31law3 rfl rfl rfl) (by decide)
theorem dL_law_1495 : decode cL_law 1495 = .ok (.pop, 1) := dk_0 (dk_k87 1495) (dk_by (j := 7) rfl ck_L_law_93_31law3 rfl rfl rfl)
theorem dL_law_1496 : decode cL_law 1496 = .ok (.aload_n 2, 1) := dk_0 (dk_k44 1496) (dk_by (j := 8) rfl ck_L_law_93_31law3 rfl rfl rfl)
theorem dL_law_1497 : decode cL_law 1497 = .ok (.aload_n 0, 1) := dk_0 (dk_k42 1497) (dk_by (j := 9) rfl ck_L_law_93_31law3 rfl rfl rfl)
theorem dL_law_1498 : decode cL_law 1498 = .ok (.iload_n 3, 1) := dk_0 (dk_k29 1498) (dk_by (j := 10) rfl ck_L_law_93_31law3 rfl rfl rfl)
theorem dL_law_1499 : decode cL_law 1499 = .ok (.iconst 1, 1) := dk_0 (dk_k4 1499) (dk_by (j := 11) rfl ck_L_law_93_31law3 rfl rfl rfl)
theorem dL_law_1500 : decode cL_law 1500 = .ok (.iadd, 1) := dk_0 (dk_k96 1500) (dk_by (j := 12) rfl ck_L_law_93_31law3 rfl rfl rfl)
theorem dL_law_1501 : decode cL_law 1501 = .ok (.iaload, 1) := dk_0 (dk_k46 1501) (dk_by (j := 13) rfl ck_L_law_93_31law3 rfl rfl rfl)
theorem dL_law_1502 : decode cL_law 1502 = .ok (.i2l, 1) := dk_0 (dk_k133 1502) (dk_by (j := 14) rfl ck_L_law_93_31law3 rfl rfl rfl)
theorem dL_law_1503 : decode cL_law 1503 = .ok (.bipush 32, 2) := dk_1 (dk_k16 1503) (dk_by (j := 15) rfl ck_L_law_93_31law3 rfl rfl rfl) (dk_by (j := 0) rfl ck_L_law_94_31law3 rfl rfl rfl) (by decide)
theorem dL_law_1505 : decode cL_law 1505 = .ok (.lshl, 1) := dk_0 (dk_k121 1505) (dk_by (j := 1) rfl ck_L_law_94_31law3 rfl rfl rfl)
theorem dL_law_1506 : decode cL_law 1506 = .ok (.aload_n 0, 1) := dk_0 (dk_k42 1506) (dk_by (j := 2) rfl ck_L_law_94_31law3 rfl rfl rfl)
theorem dL_law_1507 : decode cL_law 1507 = .ok (.iload_n 3, 1) := dk_0 (dk_k29 1507) (dk_by (j := 3) rfl ck_L_law_94_31law3 rfl rfl rfl)
theorem dL_law_1508 : decode cL_law 1508 = .ok (.iconst 2, 1) := dk_0 (dk_k5 1508) (dk_by (j := 4) rfl ck_L_law_94_31law3 rfl rfl rfl)
theorem dL_law_1509 : decode cL_law 1509 = .ok (.iadd, 1) := dk_0 (dk_k96 1509) (dk_by (j := 5) rfl ck_L_law_94_31law3 rfl rfl rfl)
theorem dL_law_1510 : decode cL_law 1510 = .ok (.iaload, 1) := dk_0 (dk_k46 1510) (dk_by (j := 6) rfl ck_L_law_94_31law3 rfl rfl rfl)
theorem dL_law_1511 : decode cL_law 1511 = .ok (.i2l, 1) := dk_0 (dk_k133 1511) (dk_by (j := 7) rfl ck_L_law_94_31law3 rfl rfl rfl)
theorem dL_law_1512 : decode cL_law 1512 = .ok (.ldc2_w 42, 3) := dk_2 (dk_k20 1512) (dk_by (j := 8) rfl ck_L_law_94_31law3 rfl rfl rfl) (dk_by (j := 9) rfl ck_L_law_94_31law3 rfl rfl rfl) (dk_by (j := 10) rfl ck_L_law_94_31law3 rfl rfl rfl) (by decide)
theorem dL_law_1515 : decode cL_law 1515 = .ok (.land, 1) := dk_0 (dk_k127 1515) (dk_by (j := 11) rfl ck_L_law_94_31law3 rfl rfl rfl)
theorem dL_law_1516 : decode cL_law 1516 = .ok (.lor, 1) := dk_0 (dk_k129 1516) (dk_by (j := 12) rfl ck_L_law_94_31law3 rfl rfl rfl)
theorem gL_law_X12_row : GoodIn lw_tbl (wsV RL 149 RX12 yX12_row wsX12_row) := ru_gL (ru_gV tw_7_182 tw_7_183 tw_7_184 tw_1_12 mT_X12_row)
theorem dL_law_1517 : decode cL_law 1517 = .ok (.invokevirtual 149, 3) := dk_2 (dk_k182 1517) (dk_by (j := 13) rfl ck_L_law_94_31law3 rfl rfl rfl) (dk_by (j := 14) rfl ck_L_law_94_31law3 rfl rfl rfl) (dk_by (j := 15) rfl ck_L_law_94_31law3 rfl rfl rfl) (by decide)
theorem dL_law_1520 : decode cL_law 1520 = .ok (.pop, 1) := dk_0 (dk_k87 1520) (dk_by (j := 0) rfl ck_L_law_95_31law3 rfl rfl rfl)
theorem dL_law_1521 : decode cL_law 1521 = .ok (.goto 314, 3) := dk_s (dk_k167 1521) (dk_by (j := 1) rfl ck_L_law_95_31law3 rfl rfl rfl) (dk_by (j := 2) rfl ck_L_law_95_31law3 rfl rfl rfl) (dk_by (j := 3) rfl ck_L_law_95_31law3 rfl rfl rfl) (by decide)
theorem dL_law_1524 : decode cL_law 1524 = .ok (.aload_n 1, 1) := dk_0 (dk_k43 1524) (dk_by (j := 4) rfl ck_L_law_95_31law3 rfl rfl rfl)
theorem dL_law_1525 : decode cL_law 1525 = .ok (.aload_n 0, 1) := dk_0 (dk_k42 1525) (dk_by (j := 5) rfl ck_L_law_95_31law3 rfl rfl rfl)
theorem dL_law_1526 : decode cL_law 1526 = .ok (.iload_n 3, 1) := dk_0 (dk_k29 1526) (dk_by (j := 6) rfl ck_L_law_95_31law3 rfl rfl rfl)
theorem dL_law_1527 : decode cL_law 1527 = .ok (.iconst 1, 1) := dk_0 (dk_k4 1527) (dk_by (j := 7) rfl ck_L_law_95_31law3 rfl rfl rfl)
theorem dL_law_1528 : decode cL_law 1528 = .ok (.iadd, 1) := dk_0 (dk_k96 1528) (dk_by (j := 8) rfl ck_L_law_95_31law3 rfl rfl rfl)
theorem dL_law_1529 : decode cL_law 1529 = .ok (.iaload, 1) := dk_0 (dk_k46 1529) (dk_by (j := 9) rfl ck_L_law_95_31law3 rfl rfl rfl)
theorem dL_law_1530 : decode cL_law 1530 = .ok (.aload_n 0, 1) := dk_0 (dk_k42 1530) (dk_by (j := 10) rfl ck_L_law_95_31law3 rfl rfl rfl)
theorem dL_law_1531 : decode cL_law 1531 = .ok (.iload_n 3, 1) := dk_0 (dk_k29 1531) (dk_by (j := 11) rfl ck_L_law_95_31law3 rfl rfl rfl)
theorem dL_law_1532 : decode cL_law 1532 = .ok (.iconst 2, 1) := dk_0 (dk_k5 1532) (dk_by (j := 12) rfl ck_L_law_95_31law3 rfl rfl rfl)
theorem dL_law_1533 : decode cL_law 1533 = .ok (.iadd, 1) := dk_0 (dk_k96 1533) (dk_by (j := 13) rfl ck_L_law_95_31law3 rfl rfl rfl)
theorem dL_law_1534 : decode cL_law 1534 = .ok (.iaload, 1) := dk_0 (dk_k46 1534) (dk_by (j := 14) rfl ck_L_law_95_31law3 rfl rfl rfl)
theorem dL_law_1535 : decode cL_law 1535 = .ok (.aload_n 0, 1) := dk_0 (dk_k42 1535) (dk_by (j := 15) rfl ck_L_law_95_31law3 rfl rfl rfl)
theorem dL_law_1536 : decode cL_law 1536 = .ok (.iload_n 3, 1) := dk_0 (dk_k29 1536) (dk_by (j := 0) rfl ck_L_law_96_31law3 rfl rfl rfl)
theorem dL_law_1537 : decode cL_law 1537 = .ok (.iconst 3, 1) := dk_0 (dk_k6 1537) (dk_by (j := 1) rfl ck_L_law_96_31law3 rfl rfl rfl)
theorem dL_law_1538 : decode cL_law 1538 = .ok (.iadd, 1) := dk_0 (dk_k96 1538) (dk_by (j := 2) rfl ck_L_law_96_31law3 rfl rfl rfl)
theorem dL_law_1539 : decode cL_law 1539 = .ok (.iaload, 1) := dk_0 (dk_k46 1539) (dk_by (j := 3) rfl ck_L_law_96_31law3 rfl rfl rfl)
theorem gL_law_X11_days : GoodIn lw_tbl (wsV RL 150 RX11 yX11_days wsX11_days) := ru_gL (ru_gV tw_5_41 tw_5_42 tw_5_43 tw_1_1 mT_X11_days)
theorem dL_law_1540 : decode cL_law 1540 = .ok (.invokevirtual 150, 3) := dk_2 (dk_k182 1540) (dk_by (j := 4) rfl ck_L_law_96_31law3 rfl rfl rfl) (dk_by (j := 5) rfl ck_L_law_96_31law3 rfl rfl rfl) (dk_by (j := 6) rfl ck_L_law_96_31law3 rfl rfl rfl) (by decide)
theorem dL_law_1543 : decode cL_law 1543 = .ok (.pop, 1) := dk_0 (dk_k87 1543) (dk_by (j := 7) rfl ck_L_law_96_31law3 rfl rfl rfl)
theorem dL_law_1544 : decode cL_law 1544 = .ok (.aload_n 2, 1) := dk_0 (dk_k44 1544) (dk_by (j := 8) rfl ck_L_law_96_31law3 rfl rfl rfl)
theorem dL_law_1545 : decode cL_law 1545 = .ok (.aload_n 0, 1) := dk_0 (dk_k42 1545) (dk_by (j := 9) rfl ck_L_law_96_31law3 rfl rfl rfl)
theorem dL_law_1546 : decode cL_law 1546 = .ok (.iload_n 3, 1) := dk_0 (dk_k29 1546) (dk_by (j := 10) rfl ck_L_law_96_31law3 rfl rfl rfl)
theorem dL_law_1547 : decode cL_law 1547 = .ok (.iconst 1, 1) := dk_0 (dk_k4 1547) (dk_by (j := 11) rfl ck_L_law_96_31law3 rfl rfl rfl)
theorem dL_law_1548 : decode cL_law 1548 = .ok (.iadd, 1) := dk_0 (dk_k96 1548) (dk_by (j := 12) rfl ck_L_law_96_31law3 rfl rfl rfl)
theorem dL_law_1549 : decode cL_law 1549 = .ok (.iaload, 1) := dk_0 (dk_k46 1549) (dk_by (j := 13) rfl ck_L_law_96_31law3 rfl rfl rfl)
theorem dL_law_1550 : decode cL_law 1550 = .ok (.aload_n 0, 1) := dk_0 (dk_k42 1550) (dk_by (j := 14) rfl ck_L_law_96_31law3 rfl rfl rfl)
theorem dL_law_1551 : decode cL_law 1551 = .ok (.iload_n 3, 1) := dk_0 (dk_k29 1551) (dk_by (j := 15) rfl ck_L_law_96_31law3 rfl rfl rfl)
theorem dL_law_1552 : decode cL_law 1552 = .ok (.iconst 2, 1) := dk_0 (dk_k5 1552) (dk_by (j := 0) rfl ck_L_law_97_31law3 rfl rfl rfl)
theorem dL_law_1553 : decode cL_law 1553 = .ok (.iadd, 1) := dk_0 (dk_k96 1553) (dk_by (j := 1) rfl ck_L_law_97_31law3 rfl rfl rfl)
theorem dL_law_1554 : decode cL_law 1554 = .ok (.iaload, 1) := dk_0 (dk_k46 1554) (dk_by (j := 2) rfl ck_L_law_97_31law3 rfl rfl rfl)
theorem dL_law_1555 : decode cL_law 1555 = .ok (.aload_n 0, 1) := dk_0 (dk_k42 1555) (dk_by (j := 3) rfl ck_L_law_97_31law3 rfl rfl rfl)
theorem dL_law_1556 : decode cL_law 1556 = .ok (.iload_n 3, 1) := dk_0 (dk_k29 1556) (dk_by (j := 4) rfl ck_L_law_97_31law3 rfl rfl rfl)
theorem dL_law_1557 : decode cL_law 1557 = .ok (.iconst 3, 1) := dk_0 (dk_k6 1557) (dk_by (j := 5) rfl ck_L_law_97_31law3 rfl rfl rfl)
theorem dL_law_1558 : decode cL_law 1558 = .ok (.iadd, 1) := dk_0 (dk_k96 1558) (dk_by (j := 6) rfl ck_L_law_97_31law3 rfl rfl rfl)
theorem dL_law_1559 : decode cL_law 1559 = .ok (.iaload, 1) := dk_0 (dk_k46 1559) (dk_by (j := 7) rfl ck_L_law_97_31law3 rfl rfl rfl)
theorem gL_law_X12_days : GoodIn lw_tbl (wsV RL 153 RX12 yX12_days wsX12_days) := ru_gL (ru_gV tw_7_188 tw_7_189 tw_7_190 tw_1_12 mT_X12_days)
theorem dL_law_1560 : decode cL_law 1560 = .ok (.invokevirtual 153, 3) := dk_2 (dk_k182 1560) (dk_by (j := 8) rfl ck_L_law_97_31law3 rfl rfl rfl) (dk_by (j := 9) rfl ck_L_law_97_31law3 rfl rfl rfl) (dk_by (j := 10) rfl ck_L_law_97_31law3 rfl rfl rfl) (by decide)
theorem dL_law_1563 : decode cL_law 1563 = .ok (.pop, 1) := dk_0 (dk_k87 1563) (dk_by (j := 11) rfl ck_L_law_97_31law3 rfl rfl rfl)
theorem dL_law_1564 : decode cL_law 1564 = .ok (.goto 271, 3) := dk_s (dk_k167 1564) (dk_by (j := 12) rfl ck_L_law_97_31law3 rfl rfl rfl) (dk_by (j := 13) rfl ck_L_law_97_31law3 rfl rfl rfl) (dk_by (j := 14) rfl ck_L_law_97_31law3 rfl rfl rfl) (by decide)
theorem dL_law_1567 : decode cL_law 1567 = .ok (.aload_n 1, 1) := dk_0 (dk_k43 1567) (dk_by (j := 15) rfl ck_L_law_97_31law3 rfl rfl rfl)
theorem dL_law_1568 : decode cL_law 1568 = .ok (.aload_n 0, 1) := dk_0 (dk_k42 1568) (dk_by (j := 0) rfl ck_L_law_98_31law3 rfl rfl rfl)
theorem dL_law_1569 : decode cL_law 1569 = .ok (.iload_n 3, 1) := dk_0 (dk_k29 1569) (dk_by (j := 1) rfl ck_L_law_98_31law3 rfl rfl rfl)
theorem dL_law_1570 : decode cL_law 1570 = .ok (.iconst 1, 1) := dk_0 (dk_k4 1570) (dk_by (j := 2) rfl ck_L_law_98_31law3 rfl rfl rfl)
theorem dL_law_1571 : decode cL_law 1571 = .ok (.iadd, 1) := dk_0 (dk_k96 1571) (dk_by (j := 3) rfl ck_L_law_98_31law3 rfl rfl rfl)
theorem dL_law_1572 : decode cL_law 1572 = .ok (.iaload, 1) := dk_0 (dk_k46 1572) (dk_by (j := 4) rfl ck_L_law_98_31law3 rfl rfl rfl)
theorem gL_law_X11_count : GoodIn lw_tbl (wsV RL 154 RX11 yX11_count wsX11_count) := ru_gL (ru_gV tw_5_65 tw_5_66 tw_5_67 tw_1_1 mT_X11_count)
theorem dL_law_1573 : decode cL_law 1573 = .ok (.invokevirtual 154, 3) := dk_2 (dk_k182 1573) (dk_by (j := 5) rfl ck_L_law_98_31law3 rfl rfl rfl) (dk_by (j := 6) rfl ck_L_law_98_31law3 rfl rfl rfl) (dk_by (j := 7) rfl ck_L_law_98_31law3 rfl rfl rfl) (by decide)
theorem dL_law_1576 : decode cL_law 1576 = .ok (.pop, 1) := dk_0 (dk_k87 1576) (dk_by (j := 8) rfl ck_L_law_98_31law3 rfl rfl rfl)
theorem dL_law_1577 : decode cL_law 1577 = .ok (.aload_n 2, 1) := dk_0 (dk_k44 1577) (dk_by (j := 9) rfl ck_L_law_98_31law3 rfl rfl rfl)
theorem dL_law_1578 : decode cL_law 1578 = .ok (.aload_n 0, 1) := dk_0 (dk_k42 1578) (dk_by (j := 10) rfl ck_L_law_98_31law3 rfl rfl rfl)
theorem dL_law_1579 : decode cL_law 1579 = .ok (.iload_n 3, 1) := dk_0 (dk_k29 1579) (dk_by (j := 11) rfl ck_L_law_98_31law3 rfl rfl rfl)
theorem dL_law_1580 : decode cL_law 1580 = .ok (.iconst 1, 1) := dk_0 (dk_k4 1580) (dk_by (j := 12) rfl ck_L_law_98_31law3 rfl rfl rfl)
theorem dL_law_1581 : decode cL_law 1581 = .ok (.iadd, 1) := dk_0 (dk_k96 1581) (dk_by (j := 13) rfl ck_L_law_98_31law3 rfl rfl rfl)
theorem dL_law_1582 : decode cL_law 1582 = .ok (.iaload, 1) := dk_0 (dk_k46 1582) (dk_by (j := 14) rfl ck_L_law_98_31law3 rfl rfl rfl)
theorem gL_law_X12_count : GoodIn lw_tbl (wsV RL 157 RX12 yX12_count wsX12_count) := ru_gL (ru_gV tw_7_196 tw_7_197 tw_7_198 tw_1_12 mT_X12_count)
theorem dL_law_1583 : decode cL_law 1583 = .ok (.invokevirtual 157, 3) := dk_2 (dk_k182 1583) (dk_by (j := 15) rfl ck_L_law_98_31law3 rfl rfl rfl) (dk_by (j := 0) rfl ck_L_law_99_31law3 rfl rfl rfl) (dk_by (j := 1) rfl ck_L_law_99_31law3 rfl rfl rfl) (by decide)
theorem dL_law_1586 : decode cL_law 1586 = .ok (.pop, 1) := dk_0 (dk_k87 1586) (dk_by (j := 2) rfl ck_L_law_99_31law3 rfl rfl rfl)
theorem dL_law_1587 : decode cL_law 1587 = .ok (.goto 248, 3) := dk_s (dk_k167 1587) (dk_by (j := 3) rfl ck_L_law_99_31law3 rfl rfl rfl) (dk_by (j := 4) rfl ck_L_law_99_31law3 rfl rfl rfl) (dk_by (j := 5) rfl ck_L_law_99_31law3 rfl rfl rfl) (by decide)
theorem dL_law_1590 : decode cL_law 1590 = .ok (.aload_n 1, 1) := dk_0 (dk_k43 1590) (dk_by (j := 6) rfl ck_L_law_99_31law3 rfl rfl rfl)
theorem dL_law_1591 : decode cL_law 1591 = .ok (.aload_n 0, 1) := dk_0 (dk_k42 1591) (dk_by (j := 7) rfl ck_L_law_99_31law3 rfl rfl rfl)
theorem dL_law_1592 : decode cL_law 1592 = .ok (.iload_n 3, 1) := dk_0 (dk_k29 1592) (dk_by (j := 8) rfl ck_L_law_99_31law3 rfl rfl rfl)
theorem dL_law_1593 : decode cL_law 1593 = .ok (.iconst 1, 1) := dk_0 (dk_k4 1593) (dk_by (j := 9) rfl ck_L_law_99_31law3 rfl rfl rfl)
theorem dL_law_1594 : decode cL_law 1594 = .ok (.iadd, 1) := dk_0 (dk_k96 1594) (dk_by (j := 10) rfl ck_L_law_99_31law3 rfl rfl rfl)
theorem dL_law_1595 : decode cL_law 1595 = .ok (.iaload, 1) := dk_0 (dk_k46 1595) (dk_by (j := 11) rfl ck_L_law_99_31law3 rfl rfl rfl)
theorem dL_law_1596 : decode cL_law 1596 = .ok (.aload_n 0, 1) := dk_0 (dk_k42 1596) (dk_by (j := 12) rfl ck_L_law_99_31law3 rfl rfl rfl)
theorem dL_law_1597 : decode cL_law 1597 = .ok (.iload_n 3, 1) := dk_0 (dk_k29 1597) (dk_by (j := 13) rfl ck_L_law_99_31law3 rfl rfl rfl)
theorem dL_law_1598 : decode cL_law 1598 = .ok (.iconst 2, 1) := dk_0 (dk_k5 1598) (dk_by (j := 14) rfl ck_L_law_99_31law3 rfl rfl rfl)
theorem dL_law_1599 : decode cL_law 1599 = .ok (.iadd, 1) := dk_0 (dk_k96 1599) (dk_by (j := 15) rfl ck_L_law_99_31law3 rfl rfl rfl)
theorem dL_law_1600 : decode cL_law 1600 = .ok (.iaload, 1) := dk_0 (dk_k46 1600) (dk_by (j := 0) rfl ck_L_law_100_31law3 rfl rfl rfl)
theorem dL_law_1601 : decode cL_law 1601 = .ok (.aload_n 0, 1) := dk_0 (dk_k42 1601) (dk_by (j := 1) rfl ck_L_law_100_31law3 rfl rfl rfl)
theorem dL_law_1602 : decode cL_law 1602 = .ok (.iload_n 3, 1) := dk_0 (dk_k29 1602) (dk_by (j := 2) rfl ck_L_law_100_31law3 rfl rfl rfl)
theorem dL_law_1603 : decode cL_law 1603 = .ok (.iconst 3, 1) := dk_0 (dk_k6 1603) (dk_by (j := 3) rfl ck_L_law_100_31law3 rfl rfl rfl)
theorem dL_law_1604 : decode cL_law 1604 = .ok (.iadd, 1) := dk_0 (dk_k96 1604) (dk_by (j := 4) rfl ck_L_law_100_31law3 rfl rfl rfl)
theorem dL_law_1605 : decode cL_law 1605 = .ok (.iaload, 1) := dk_0 (dk_k46 1605) (dk_by (j := 5) rfl ck_L_law_100_31law3 rfl rfl rfl)
theorem gL_law_X11_sheet : GoodIn lw_tbl (wsV RL 158 RX11 yX11_sheet wsX11_sheet) := ru_gL (ru_gV tw_5_69 tw_5_70 tw_5_71 tw_1_1 mT_X11_sheet)
theorem dL_law_1606 : decode cL_law 1606 = .ok (.invokevirtual 158, 3) := dk_2 (dk_k182 1606) (dk_by (j := 6) rfl ck_L_law_100_31law3 rfl rfl rfl) (dk_by (j := 7) rfl ck_L_law_100_31law3 rfl rfl rfl) (dk_by (j := 8) rfl ck_L_law_100_31law3 rfl rfl rfl) (by decide)
theorem dL_law_1609 : decode cL_law 1609 = .ok (.pop, 1) := dk_0 (dk_k87 1609) (dk_by (j := 9) rfl ck_L_law_100_31law3 rfl rfl rfl)
theorem dL_law_1610 : decode cL_law 1610 = .ok (.aload_n 2, 1) := dk_0 (dk_k44 1610) (dk_by (j := 10) rfl ck_L_law_100_31law3 rfl rfl rfl)
theorem dL_law_1611 : decode cL_law 1611 = .ok (.aload_n 0, 1) := dk_0 (dk_k42 1611) (dk_by (j := 11) rfl ck_L_law_100_31law3 rfl rfl rfl)
theorem dL_law_1612 : decode cL_law 1612 = .ok (.iload_n 3, 1) := dk_0 (dk_k29 1612) (dk_by (j := 12) rfl ck_L_law_100_31law3 rfl rfl rfl)
theorem dL_law_1613 : decode cL_law 1613 = .ok (.iconst 1, 1) := dk_0 (dk_k4 1613) (dk_by (j := 13) rfl ck_L_law_100_31law3 rfl rfl rfl)
theorem dL_law_1614 : decode cL_law 1614 = .ok (.iadd, 1) := dk_0 (dk_k96 1614) (dk_by (j := 14) rfl ck_L_law_100_31law3 rfl rfl rfl)
theorem dL_law_1615 : decode cL_law 1615 = .ok (.iaload, 1) := dk_0 (dk_k46 1615) (dk_by (j := 15) rfl ck_L_law_100_31law3 rfl rfl rfl)
theorem dL_law_1616 : decode cL_law 1616 = .ok (.aload_n 0, 1) := dk_0 (dk_k42 1616) (dk_by (j := 0) rfl ck_L_law_101_31law3 rfl rfl rfl)
theorem dL_law_1617 : decode cL_law 1617 = .ok (.iload_n 3, 1) := dk_0 (dk_k29 1617) (dk_by (j := 1) rfl ck_L_law_101_31law3 rfl rfl rfl)
theorem dL_law_1618 : decode cL_law 1618 = .ok (.iconst 2, 1) := dk_0 (dk_k5 1618) (dk_by (j := 2) rfl ck_L_law_101_31law3 rfl rfl rfl)
theorem dL_law_1619 : decode cL_law 1619 = .ok (.iadd, 1) := dk_0 (dk_k96 1619) (dk_by (j := 3) rfl ck_L_law_101_31law3 rfl rfl rfl)
theorem dL_law_1620 : decode cL_law 1620 = .ok (.iaload, 1) := dk_0 (dk_k46 1620) (dk_by (j := 4) rfl ck_L_law_101_31law3 rfl rfl rfl)
theorem dL_law_1621 : decode cL_law 1621 = .ok (.aload_n 0, 1) := dk_0 (dk_k42 1621) (dk_by (j := 5) rfl ck_L_law_101_31law3 rfl rfl rfl)
theorem dL_law_1622 : decode cL_law 1622 = .ok (.iload_n 3, 1) := dk_0 (dk_k29 1622) (dk_by (j := 6) rfl ck_L_law_101_31law3 rfl rfl rfl)
theorem dL_law_1623 : decode cL_law 1623 = .ok (.iconst 3, 1) := dk_0 (dk_k6 1623) (dk_by (j := 7) rfl ck_L_law_101_31law3 rfl rfl rfl)
theorem dL_law_1624 : decode cL_law 1624 = .ok (.iadd, 1) := dk_0 (dk_k96 1624) (dk_by (j := 8) rfl ck_L_law_101_31law3 rfl rfl rfl)
theorem dL_law_1625 : decode cL_law 1625 = .ok (.iaload, 1) := dk_0 (dk_k46 1625) (dk_by (j := 9) rfl ck_L_law_101_31law3 rfl rfl rfl)
theorem gL_law_X12_sheet : GoodIn lw_tbl (wsV RL 161 RX12 yX12_sheet wsX12_sheet) := ru_gL (ru_gV tw_7_200 tw_7_201 tw_7_202 tw_1_12 mT_X12_sheet)
theorem dL_law_1626 : decode cL_law 1626 = .ok (.invokevirtual 161, 3) := dk_2 (dk_k182 1626) (dk_by (j := 10) rfl ck_L_law_101_31law3 rfl rfl rfl) (dk_by (j := 11) rfl ck_L_law_101_31law3 rfl rfl rfl) (dk_by (j := 12) rfl ck_L_law_101_31law3 rfl rfl rfl) (by decide)
theorem dL_law_1629 : decode cL_law 1629 = .ok (.pop, 1) := dk_0 (dk_k87 1629) (dk_by (j := 13) rfl ck_L_law_101_31law3 rfl rfl rfl)
theorem dL_law_1630 : decode cL_law 1630 = .ok (.goto 205, 3) := dk_s (dk_k167 1630) (dk_by (j := 14) rfl ck_L_law_101_31law3 rfl rfl rfl) (dk_by (j := 15) rfl ck_L_law_101_31law3 rfl rfl rfl) (dk_by (j := 0) rfl ck_L_law_102_31law3 rfl rfl rfl) (by decide)
theorem dL_law_1633 : decode cL_law 1633 = .ok (.aload_n 1, 1) := dk_0 (dk_k43 1633) (dk_by (j := 1) rfl ck_L_law_102_31law3 rfl rfl rfl)
theorem dL_law_1634 : decode cL_law 1634 = .ok (.aload_n 0, 1) := dk_0 (dk_k42 1634) (dk_by (j := 2) rfl ck_L_law_102_31law3 rfl rfl rfl)
theorem dL_law_1635 : decode cL_law 1635 = .ok (.iload_n 3, 1) := dk_0 (dk_k29 1635) (dk_by (j := 3) rfl ck_L_law_102_31law3 rfl rfl rfl)
theorem dL_law_1636 : decode cL_law 1636 = .ok (.iconst 1, 1) := dk_0 (dk_k4 1636) (dk_by (j := 4) rfl ck_L_law_102_31law3 rfl rfl rfl)
theorem dL_law_1637 : decode cL_law 1637 = .ok (.iadd, 1) := dk_0 (dk_k96 1637) (dk_by (j := 5) rfl ck_L_law_102_31law3 rfl rfl rfl)
theorem dL_law_1638 : decode cL_law 1638 = .ok (.iaload, 1) := dk_0 (dk_k46 1638) (dk_by (j := 6) rfl ck_L_law_102_31law3 rfl rfl rfl)
theorem dL_law_1639 : decode cL_law 1639 = .ok (.aload_n 0, 1) := dk_0 (dk_k42 1639) (dk_by (j := 7) rfl ck_L_law_102_31law3 rfl rfl rfl)
theorem dL_law_1640 : decode cL_law 1640 = .ok (.iload_n 3, 1) := dk_0 (dk_k29 1640) (dk_by (j := 8) rfl ck_L_law_102_31law3 rfl rfl rfl)
theorem dL_law_1641 : decode cL_law 1641 = .ok (.iconst 2, 1) := dk_0 (dk_k5 1641) (dk_by (j := 9) rfl ck_L_law_102_31law3 rfl rfl rfl)
theorem dL_law_1642 : decode cL_law 1642 = .ok (.iadd, 1) := dk_0 (dk_k96 1642) (dk_by (j := 10) rfl ck_L_law_102_31law3 rfl rfl rfl)
theorem dL_law_1643 : decode cL_law 1643 = .ok (.iaload, 1) := dk_0 (dk_k46 1643) (dk_by (j := 11) rfl ck_L_law_102_31law3 rfl rfl rfl)
theorem dL_law_1644 : decode cL_law 1644 = .ok (.aload_n 0, 1) := dk_0 (dk_k42 1644) (dk_by (j := 12) rfl ck_L_law_102_31law3 rfl rfl rfl)
theorem dL_law_1645 : decode cL_law 1645 = .ok (.iload_n 3, 1) := dk_0 (dk_k29 1645) (dk_by (j := 13) rfl ck_L_law_102_31law3 rfl rfl rfl)
theorem dL_law_1646 : decode cL_law 1646 = .ok (.iconst 3, 1) := dk_0 (dk_k6 1646) (dk_by (j := 14) rfl ck_L_law_102_31law3 rfl rfl rfl)
theorem dL_law_1647 : decode cL_law 1647 = .ok (.iadd, 1) := dk_0 (dk_k96 1647) (dk_by (j := 15) rfl ck_L_law_102_31law3 rfl rfl rfl)
theorem dL_law_1648 : decode cL_law 1648 = .ok (.iaload, 1) := dk_0 (dk_k46 1648) (dk_by (j := 0) rfl ck_L_law_103_31law3 rfl rfl rfl)
theorem gL_law_X11_cell : GoodIn lw_tbl (wsV RL 162 RX11 yX11_cell wsX11_cell) := ru_gL (ru_gV tw_5_81 tw_5_82 tw_5_83 tw_1_1 mT_X11_cell)
theorem dL_law_1649 : decode cL_law 1649 = .ok (.invokevirtual 162, 3) := dk_2 (dk_k182 1649) (dk_by (j := 1) rfl ck_L_law_103_31law3 rfl rfl rfl) (dk_by (j := 2) rfl ck_L_law_103_31law3 rfl rfl rfl) (dk_by (j := 3) rfl ck_L_law_103_31law3 rfl rfl rfl) (by decide)
theorem dL_law_1652 : decode cL_law 1652 = .ok (.pop, 1) := dk_0 (dk_k87 1652) (dk_by (j := 4) rfl ck_L_law_103_31law3 rfl rfl rfl)
theorem dL_law_1653 : decode cL_law 1653 = .ok (.aload_n 2, 1) := dk_0 (dk_k44 1653) (dk_by (j := 5) rfl ck_L_law_103_31law3 rfl rfl rfl)
theorem dL_law_1654 : decode cL_law 1654 = .ok (.aload_n 0, 1) := dk_0 (dk_k42 1654) (dk_by (j := 6) rfl ck_L_law_103_31law3 rfl rfl rfl)
theorem dL_law_1655 : decode cL_law 1655 = .ok (.iload_n 3, 1) := dk_0 (dk_k29 1655) (dk_by (j := 7) rfl ck_L_law_103_31law3 rfl rfl rfl)
theorem dL_law_1656 : decode cL_law 1656 = .ok (.iconst 1, 1) := dk_0 (dk_k4 1656) (dk_by (j := 8) rfl ck_L_law_103_31law3 rfl rfl rfl)
theorem dL_law_1657 : decode cL_law 1657 = .ok (.iadd, 1) := dk_0 (dk_k96 1657) (dk_by (j := 9) rfl ck_L_law_103_31law3 rfl rfl rfl)
theorem dL_law_1658 : decode cL_law 1658 = .ok (.iaload, 1) := dk_0 (dk_k46 1658) (dk_by (j := 10) rfl ck_L_law_103_31law3 rfl rfl rfl)
theorem dL_law_1659 : decode cL_law 1659 = .ok (.aload_n 0, 1) := dk_0 (dk_k42 1659) (dk_by (j := 11) rfl ck_L_law_103_31law3 rfl rfl rfl)
theorem dL_law_1660 : decode cL_law 1660 = .ok (.iload_n 3, 1) := dk_0 (dk_k29 1660) (dk_by (j := 12) rfl ck_L_law_103_31law3 rfl rfl rfl)
theorem dL_law_1661 : decode cL_law 1661 = .ok (.iconst 2, 1) := dk_0 (dk_k5 1661) (dk_by (j := 13) rfl ck_L_law_103_31law3 rfl rfl rfl)
theorem dL_law_1662 : decode cL_law 1662 = .ok (.iadd, 1) := dk_0 (dk_k96 1662) (dk_by (j := 14) rfl ck_L_law_103_31law3 rfl rfl rfl)
theorem dL_law_1663 : decode cL_law 1663 = .ok (.iaload, 1) := dk_0 (dk_k46 1663) (dk_by (j := 15) rfl ck_L_law_103_31law3 rfl rfl rfl)
theorem dL_law_1664 : decode cL_law 1664 = .ok (.aload_n 0, 1) := dk_0 (dk_k42 1664) (dk_by (j := 0) rfl ck_L_law_104_31law3 rfl rfl rfl)
theorem dL_law_1665 : decode cL_law 1665 = .ok (.iload_n 3, 1) := dk_0 (dk_k29 1665) (dk_by (j := 1) rfl ck_L_law_104_31law3 rfl rfl rfl)
theorem dL_law_1666 : decode cL_law 1666 = .ok (.iconst 3, 1) := dk_0 (dk_k6 1666) (dk_by (j := 2) rfl ck_L_law_104_31law3 rfl rfl rfl)
theorem dL_law_1667 : decode cL_law 1667 = .ok (.iadd, 1) := dk_0 (dk_k96 1667) (dk_by (j := 3) rfl ck_L_law_104_31law3 rfl rfl rfl)
theorem dL_law_1668 : decode cL_law 1668 = .ok (.iaload, 1) := dk_0 (dk_k46 1668) (dk_by (j := 4) rfl ck_L_law_104_31law3 rfl rfl rfl)
theorem gL_law_X12_cell : GoodIn lw_tbl (wsV RL 165 RX12 yX12_cell wsX12_cell) := ru_gL (ru_gV tw_7_207 tw_7_208 tw_7_209 tw_1_12 mT_X12_cell)
theorem dL_law_1669 : decode cL_law 1669 = .ok (.invokevirtual 165, 3) := dk_2 (dk_k182 1669) (dk_by (j := 5) rfl ck_L_law_104_31law3 rfl rfl rfl) (dk_by (j := 6) rfl ck_L_law_104_31law3 rfl rfl rfl) (dk_by (j := 7) rfl ck_L_law_104_31law3 rfl rfl rfl) (by decide)
theorem dL_law_1672 : decode cL_law 1672 = .ok (.pop, 1) := dk_0 (dk_k87 1672) (dk_by (j := 8) rfl ck_L_law_104_31law3 rfl rfl rfl)
theorem dL_law_1673 : decode cL_law 1673 = .ok (.goto 162, 3) := dk_s (dk_k167 1673) (dk_by (j := 9) rfl ck_L_law_104_31law3 rfl rfl rfl) (dk_by (j := 10) rfl ck_L_law_104_31law3 rfl rfl rfl) (dk_by (j := 11) rfl ck_L_law_104_31law3 rfl rfl rfl) (by decide)
theorem dL_law_1676 : decode cL_law 1676 = .ok (.aload_n 1, 1) := dk_0 (dk_k43 1676) (dk_by (j := 12) rfl ck_L_law_104_31law3 rfl rfl rfl)
theorem dL_law_1677 : decode cL_law 1677 = .ok (.aload_n 0, 1) := dk_0 (dk_k42 1677) (dk_by (j := 13) rfl ck_L_law_104_31law3 rfl rfl rfl)
theorem dL_law_1678 : decode cL_law 1678 = .ok (.iload_n 3, 1) := dk_0 (dk_k29 1678) (dk_by (j := 14) rfl ck_L_law_104_31law3 rfl rfl rfl)
theorem dL_law_1679 : decode cL_law 1679 = .ok (.iconst 1, 1) := dk_0 (dk_k4 1679) (dk_by (j := 15) rfl ck_L_law_104_31law3 rfl rfl rfl)
theorem dL_law_1680 : decode cL_law 1680 = .ok (.iadd, 1) := dk_0 (dk_k96 1680) (dk_by (j := 0) rfl ck_L_law_105_31law3 rfl rfl rfl)
theorem dL_law_1681 : decode cL_law 1681 = .ok (.iaload, 1) := dk_0 (dk_k46 1681) (dk_by (j := 1) rfl ck_L_law_105_31law3 rfl rfl rfl)
theorem dL_law_1682 : decode cL_law 1682 = .ok (.aload_n 0, 1) := dk_0 (dk_k42 1682) (dk_by (j := 2) rfl ck_L_law_105_31law3 rfl rfl rfl)
theorem dL_law_1683 : decode cL_law 1683 = .ok (.iload_n 3, 1) := dk_0 (dk_k29 1683) (dk_by (j := 3) rfl ck_L_law_105_31law3 rfl rfl rfl)
theorem dL_law_1684 : decode cL_law 1684 = .ok (.iconst 2, 1) := dk_0 (dk_k5 1684) (dk_by (j := 4) rfl ck_L_law_105_31law3 rfl rfl rfl)
theorem dL_law_1685 : decode cL_law 1685 = .ok (.iadd, 1) := dk_0 (dk_k96 1685) (dk_by (j := 5) rfl ck_L_law_105_31law3 rfl rfl rfl)
theorem dL_law_1686 : decode cL_law 1686 = .ok (.iaload, 1) := dk_0 (dk_k46 1686) (dk_by (j := 6) rfl ck_L_law_105_31law3 rfl rfl rfl)
theorem dL_law_1687 : decode cL_law 1687 = .ok (.aload_n 0, 1) := dk_0 (dk_k42 1687) (dk_by (j := 7) rfl ck_L_law_105_31law3 rfl rfl rfl)
theorem dL_law_1688 : decode cL_law 1688 = .ok (.iload_n 3, 1) := dk_0 (dk_k29 1688) (dk_by (j := 8) rfl ck_L_law_105_31law3 rfl rfl rfl)
theorem dL_law_1689 : decode cL_law 1689 = .ok (.iconst 3, 1) := dk_0 (dk_k6 1689) (dk_by (j := 9) rfl ck_L_law_105_31law3 rfl rfl rfl)
theorem dL_law_1690 : decode cL_law 1690 = .ok (.iadd, 1) := dk_0 (dk_k96 1690) (dk_by (j := 10) rfl ck_L_law_105_31law3 rfl rfl rfl)
theorem dL_law_1691 : decode cL_law 1691 = .ok (.iaload, 1) := dk_0 (dk_k46 1691) (dk_by (j := 11) rfl ck_L_law_105_31law3 rfl rfl rfl)
theorem dL_law_1692 : decode cL_law 1692 = .ok (.aload_n 0, 1) := dk_0 (dk_k42 1692) (dk_by (j := 12) rfl ck_L_law_105_31law3 rfl rfl rfl)
theorem dL_law_1693 : decode cL_law 1693 = .ok (.iload_n 3, 1) := dk_0 (dk_k29 1693) (dk_by (j := 13) rfl ck_L_law_105_31law3 rfl rfl rfl)
theorem dL_law_1694 : decode cL_law 1694 = .ok (.iconst 4, 1) := dk_0 (dk_k7 1694) (dk_by (j := 14) rfl ck_L_law_105_31law3 rfl rfl rfl)
theorem dL_law_1695 : decode cL_law 1695 = .ok (.iadd, 1) := dk_0 (dk_k96 1695) (dk_by (j := 15) rfl ck_L_law_105_31law3 rfl rfl rfl)
theorem dL_law_1696 : decode cL_law 1696 = .ok (.iaload, 1) := dk_0 (dk_k46 1696) (dk_by (j := 0) rfl ck_L_law_106_31law3 rfl rfl rfl)
theorem dL_law_1697 : decode cL_law 1697 = .ok (.aload_n 0, 1) := dk_0 (dk_k42 1697) (dk_by (j := 1) rfl ck_L_law_106_31law3 rfl rfl rfl)
theorem dL_law_1698 : decode cL_law 1698 = .ok (.iload_n 3, 1) := dk_0 (dk_k29 1698) (dk_by (j := 2) rfl ck_L_law_106_31law3 rfl rfl rfl)
theorem dL_law_1699 : decode cL_law 1699 = .ok (.iconst 5, 1) := dk_0 (dk_k8 1699) (dk_by (j := 3) rfl ck_L_law_106_31law3 rfl rfl rfl)
theorem dL_law_1700 : decode cL_law 1700 = .ok (.iadd, 1) := dk_0 (dk_k96 1700) (dk_by (j := 4) rfl ck_L_law_106_31law3 rfl rfl rfl)
theorem dL_law_1701 : decode cL_law 1701 = .ok (.iaload, 1) := dk_0 (dk_k46 1701) (dk_by (j := 5) rfl ck_L_law_106_31law3 rfl rfl rfl)
theorem gL_law_X11_copy : GoodIn lw_tbl (wsV RL 166 RX11 yX11_copy wsX11_copy) := ru_gL (ru_gV tw_5_93 tw_5_94 tw_5_95 tw_1_1 mT_X11_copy)
theorem dL_law_1702 : decode cL_law 1702 = .ok (.invokevirtual 166, 3) := dk_2 (dk_k182 1702) (dk_by (j := 6) rfl ck_L_law_106_31law3 rfl rfl rfl) (dk_by (j := 7) rfl ck_L_law_106_31law3 rfl rfl rfl) (dk_by (j := 8) rfl ck_L_law_106_31law3 rfl rfl rfl) (by decide)
theorem dL_law_1705 : decode cL_law 1705 = .ok (.pop, 1) := dk_0 (dk_k87 1705) (dk_by (j := 9) rfl ck_L_law_106_31law3 rfl rfl rfl)
theorem dL_law_1706 : decode cL_law 1706 = .ok (.aload_n 2, 1) := dk_0 (dk_k44 1706) (dk_by (j := 10) rfl ck_L_law_106_31law3 rfl rfl rfl)
theorem dL_law_1707 : decode cL_law 1707 = .ok (.aload_n 0, 1) := dk_0 (dk_k42 1707) (dk_by (j := 11) rfl ck_L_law_106_31law3 rfl rfl rfl)
theorem dL_law_1708 : decode cL_law 1708 = .ok (.iload_n 3, 1) := dk_0 (dk_k29 1708) (dk_by (j := 12) rfl ck_L_law_106_31law3 rfl rfl rfl)
theorem dL_law_1709 : decode cL_law 1709 = .ok (.iconst 1, 1) := dk_0 (dk_k4 1709) (dk_by (j := 13) rfl ck_L_law_106_31law3 rfl rfl rfl)
theorem dL_law_1710 : decode cL_law 1710 = .ok (.iadd, 1) := dk_0 (dk_k96 1710) (dk_by (j := 14) rfl ck_L_law_106_31law3 rfl rfl rfl)
theorem dL_law_1711 : decode cL_law 1711 = .ok (.iaload, 1) := dk_0 (dk_k46 1711) (dk_by (j := 15) rfl ck_L_law_106_31law3 rfl rfl rfl)
theorem dL_law_1712 : decode cL_law 1712 = .ok (.aload_n 0, 1) := dk_0 (dk_k42 1712) (dk_by (j := 0) rfl ck_L_law_107_31law3 rfl rfl rfl)
theorem dL_law_1713 : decode cL_law 1713 = .ok (.iload_n 3, 1) := dk_0 (dk_k29 1713) (dk_by (j := 1) rfl ck_L_law_107_31law3 rfl rfl rfl)
theorem dL_law_1714 : decode cL_law 1714 = .ok (.iconst 2, 1) := dk_0 (dk_k5 1714) (dk_by (j := 2) rfl ck_L_law_107_31law3 rfl rfl rfl)
theorem dL_law_1715 : decode cL_law 1715 = .ok (.iadd, 1) := dk_0 (dk_k96 1715) (dk_by (j := 3) rfl ck_L_law_107_31law3 rfl rfl rfl)
theorem dL_law_1716 : decode cL_law 1716 = .ok (.iaload, 1) := dk_0 (dk_k46 1716) (dk_by (j := 4) rfl ck_L_law_107_31law3 rfl rfl rfl)
theorem dL_law_1717 : decode cL_law 1717 = .ok (.aload_n 0, 1) := dk_0 (dk_k42 1717) (dk_by (j := 5) rfl ck_L_law_107_31law3 rfl rfl rfl)
theorem dL_law_1718 : decode cL_law 1718 = .ok (.iload_n 3, 1) := dk_0 (dk_k29 1718) (dk_by (j := 6) rfl ck_L_law_107_31law3 rfl rfl rfl)
theorem dL_law_1719 : decode cL_law 1719 = .ok (.iconst 3, 1) := dk_0 (dk_k6 1719) (dk_by (j := 7) rfl ck_L_law_107_31law3 rfl rfl rfl)
theorem dL_law_1720 : decode cL_law 1720 = .ok (.iadd, 1) := dk_0 (dk_k96 1720) (dk_by (j := 8) rfl ck_L_law_107_31law3 rfl rfl rfl)
theorem dL_law_1721 : decode cL_law 1721 = .ok (.iaload, 1) := dk_0 (dk_k46 1721) (dk_by (j := 9) rfl ck_L_law_107_31law3 rfl rfl rfl)
theorem dL_law_1722 : decode cL_law 1722 = .ok (.aload_n 0, 1) := dk_0 (dk_k42 1722) (dk_by (j := 10) rfl ck_L_law_107_31law3 rfl rfl rfl)
theorem dL_law_1723 : decode cL_law 1723 = .ok (.iload_n 3, 1) := dk_0 (dk_k29 1723) (dk_by (j := 11) rfl ck_L_law_107_31law3 rfl rfl rfl)
theorem dL_law_1724 : decode cL_law 1724 = .ok (.iconst 4, 1) := dk_0 (dk_k7 1724) (dk_by (j := 12) rfl ck_L_law_107_31law3 rfl rfl rfl)
theorem dL_law_1725 : decode cL_law 1725 = .ok (.iadd, 1) := dk_0 (dk_k96 1725) (dk_by (j := 13) rfl ck_L_law_107_31law3 rfl rfl rfl)
theorem dL_law_1726 : decode cL_law 1726 = .ok (.iaload, 1) := dk_0 (dk_k46 1726) (dk_by (j := 14) rfl ck_L_law_107_31law3 rfl rfl rfl)
theorem dL_law_1727 : decode cL_law 1727 = .ok (.aload_n 0, 1) := dk_0 (dk_k42 1727) (dk_by (j := 15) rfl ck_L_law_107_31law3 rfl rfl rfl)
theorem dL_law_1728 : decode cL_law 1728 = .ok (.iload_n 3, 1) := dk_0 (dk_k29 1728) (dk_by (j := 0) rfl ck_L_law_108_31law3 rfl rfl rfl)
theorem dL_law_1729 : decode cL_law 1729 = .ok (.iconst 5, 1) := dk_0 (dk_k8 1729) (dk_by (j := 1) rfl ck_L_law_108_31law3 rfl rfl rfl)
theorem dL_law_1730 : decode cL_law 1730 = .ok (.iadd, 1) := dk_0 (dk_k96 1730) (dk_by (j := 2) rfl ck_L_law_108_31law3 rfl rfl rfl)
theorem dL_law_1731 : decode cL_law 1731 = .ok (.iaload, 1) := dk_0 (dk_k46 1731) (dk_by (j := 3) rfl ck_L_law_108_31law3 rfl rfl rfl)
theorem gL_law_X12_copy : GoodIn lw_tbl (wsV RL 169 RX12 yX12_copy wsX12_copy) := ru_gL (ru_gV tw_7_215 tw_7_216 tw_7_217 tw_1_12 mT_X12_copy)
theorem dL_law_1732 : decode cL_law 1732 = .ok (.invokevirtual 169, 3) := dk_2 (dk_k182 1732) (dk_by (j := 4) rfl ck_L_law_108_31law3 rfl rfl rfl) (dk_by (j := 5) rfl ck_L_law_108_31law3 rfl rfl rfl) (dk_by (j := 6) rfl ck_L_law_108_31law3 rfl rfl rfl) (by decide)
theorem dL_law_1735 : decode cL_law 1735 = .ok (.pop, 1) := dk_0 (dk_k87 1735) (dk_by (j := 7) rfl ck_L_law_108_31law3 rfl rfl rfl)
theorem dL_law_1736 : decode cL_law 1736 = .ok (.goto 99, 3) := dk_s (dk_k167 1736) (dk_by (j := 8) rfl ck_L_law_108_31law3 rfl rfl rfl) (dk_by (j := 9) rfl ck_L_law_108_31law3 rfl rfl rfl) (dk_by (j := 10) rfl ck_L_law_108_31law3 rfl rfl rfl) (by decide)
theorem dL_law_1739 : decode cL_law 1739 = .ok (.aload_n 1, 1) := dk_0 (dk_k43 1739) (dk_by (j := 11) rfl ck_L_law_108_31law3 rfl rfl rfl)
theorem dL_law_1740 : decode cL_law 1740 = .ok (.aload_n 0, 1) := dk_0 (dk_k42 1740) (dk_by (j := 12) rfl ck_L_law_108_31law3 rfl rfl rfl)
theorem dL_law_1741 : decode cL_law 1741 = .ok (.iload_n 3, 1) := dk_0 (dk_k29 1741) (dk_by (j := 13) rfl ck_L_law_108_31law3 rfl rfl rfl)
theorem dL_law_1742 : decode cL_law 1742 = .ok (.iconst 1, 1) := dk_0 (dk_k4 1742) (dk_by (j := 14) rfl ck_L_law_108_31law3 rfl rfl rfl)
theorem dL_law_1743 : decode cL_law 1743 = .ok (.iadd, 1) := dk_0 (dk_k96 1743) (dk_by (j := 15) rfl ck_L_law_108_31law3 rfl rfl rfl)
theorem dL_law_1744 : decode cL_law 1744 = .ok (.iaload, 1) := dk_0 (dk_k46 1744) (dk_by (j := 0) rfl ck_L_law_109_31law3 rfl rfl rfl)
theorem dL_law_1745 : decode cL_law 1745 = .ok (.aload_n 0, 1) := dk_0 (dk_k42 1745) (dk_by (j := 1) rfl ck_L_law_109_31law3 rfl rfl rfl)
theorem dL_law_1746 : decode cL_law 1746 = .ok (.iload_n 3, 1) := dk_0 (dk_k29 1746) (dk_by (j := 2) rfl ck_L_law_109_31law3 rfl rfl rfl)
theorem dL_law_1747 : decode cL_law 1747 = .ok (.iconst 2, 1) := dk_0 (dk_k5 1747) (dk_by (j := 3) rfl ck_L_law_109_31law3 rfl rfl rfl)
theorem dL_law_1748 : decode cL_law 1748 = .ok (.iadd, 1) := dk_0 (dk_k96 1748) (dk_by (j := 4) rfl ck_L_law_109_31law3 rfl rfl rfl)
theorem dL_law_1749 : decode cL_law 1749 = .ok (.iaload, 1) := dk_0 (dk_k46 1749) (dk_by (j := 5) rfl ck_L_law_109_31law3 rfl rfl rfl)
theorem dL_law_1750 : decode cL_law 1750 = .ok (.aload_n 0, 1) := dk_0 (dk_k42 1750) (dk_by (j := 6) rfl ck_L_law_109_31law3 rfl rfl rfl)
theorem dL_law_1751 : decode cL_law 1751 = .ok (.iload_n 3, 1) := dk_0 (dk_k29 1751) (dk_by (j := 7) rfl ck_L_law_109_31law3 rfl rfl rfl)
theorem dL_law_1752 : decode cL_law 1752 = .ok (.iconst 3, 1) := dk_0 (dk_k6 1752) (dk_by (j := 8) rfl ck_L_law_109_31law3 rfl rfl rfl)
theorem dL_law_1753 : decode cL_law 1753 = .ok (.iadd, 1) := dk_0 (dk_k96 1753) (dk_by (j := 9) rfl ck_L_law_109_31law3 rfl rfl rfl)
theorem dL_law_1754 : decode cL_law 1754 = .ok (.iaload, 1) := dk_0 (dk_k46 1754) (dk_by (j := 10) rfl ck_L_law_109_31law3 rfl rfl rfl)
theorem dL_law_1755 : decode cL_law 1755 = .ok (.aload_n 0, 1) := dk_0 (dk_k42 1755) (dk_by (j := 11) rfl ck_L_law_109_31law3 rfl rfl rfl)
theorem dL_law_1756 : decode cL_law 1756 = .ok (.iload_n 3, 1) := dk_0 (dk_k29 1756) (dk_by (j := 12) rfl ck_L_law_109_31law3 rfl rfl rfl)
theorem dL_law_1757 : decode cL_law 1757 = .ok (.iconst 4, 1) := dk_0 (dk_k7 1757) (dk_by (j := 13) rfl ck_L_law_109_31law3 rfl rfl rfl)
theorem dL_law_1758 : decode cL_law 1758 = .ok (.iadd, 1) := dk_0 (dk_k96 1758) (dk_by (j := 14) rfl ck_L_law_109_31law3 rfl rfl rfl)
theorem dL_law_1759 : decode cL_law 1759 = .ok (.iaload, 1) := dk_0 (dk_k46 1759) (dk_by (j := 15) rfl ck_L_law_109_31law3 rfl rfl rfl)
theorem dL_law_1760 : decode cL_law 1760 = .ok (.aload_n 0, 1) := dk_0 (dk_k42 1760) (dk_by (j := 0) rfl ck_L_law_110_31law3 rfl rfl rfl)
theorem dL_law_1761 : decode cL_law 1761 = .ok (.iload_n 3, 1) := dk_0 (dk_k29 1761) (dk_by (j := 1) rfl ck_L_law_110_31law3 rfl rfl rfl)
theorem dL_law_1762 : decode cL_law 1762 = .ok (.iconst 5, 1) := dk_0 (dk_k8 1762) (dk_by (j := 2) rfl ck_L_law_110_31law3 rfl rfl rfl)
theorem dL_law_1763 : decode cL_law 1763 = .ok (.iadd, 1) := dk_0 (dk_k96 1763) (dk_by (j := 3) rfl ck_L_law_110_31law3 rfl rfl rfl)
theorem dL_law_1764 : decode cL_law 1764 = .ok (.iaload, 1) := dk_0 (dk_k46 1764) (dk_by (j := 4) rfl ck_L_law_110_31law3 rfl rfl rfl)
theorem gL_law_X11_fixes : GoodIn lw_tbl (wsV RL 170 RX11 yX11_fixes wsX11_fixes) := ru_gL (ru_gV tw_5_102 tw_5_103 tw_5_104 tw_1_1 mT_X11_fixes)
theorem dL_law_1765 : decode cL_law 1765 = .ok (.invokevirtual 170, 3) := dk_2 (dk_k182 1765) (dk_by (j := 5) rfl ck_L_law_110_31law3 rfl rfl rfl) (dk_by (j := 6) rfl ck_L_law_110_31law3 rfl rfl rfl) (dk_by (j := 7) rfl ck_L_law_110_31law3 rfl rfl rfl) (by decide)
theorem dL_law_1768 : decode cL_law 1768 = .ok (.pop, 1) := dk_0 (dk_k87 1768) (dk_by (j := 8) rfl ck_L_law_110_31law3 rfl rfl rfl)
theorem dL_law_1769 : decode cL_law 1769 = .ok (.aload_n 2, 1) := dk_0 (dk_k44 1769) (dk_by (j := 9) rfl ck_L_law_110_31law3 rfl rfl rfl)
theorem dL_law_1770 : decode cL_law 1770 = .ok (.aload_n 0, 1) := dk_0 (dk_k42 1770) (dk_by (j := 10) rfl ck_L_law_110_31law3 rfl rfl rfl)
theorem dL_law_1771 : decode cL_law 1771 = .ok (.iload_n 3, 1) := dk_0 (dk_k29 1771) (dk_by (j := 11) rfl ck_L_law_110_31law3 rfl rfl rfl)
theorem dL_law_1772 : decode cL_law 1772 = .ok (.iconst 1, 1) := dk_0 (dk_k4 1772) (dk_by (j := 12) rfl ck_L_law_110_31law3 rfl rfl rfl)
theorem dL_law_1773 : decode cL_law 1773 = .ok (.iadd, 1) := dk_0 (dk_k96 1773) (dk_by (j := 13) rfl ck_L_law_110_31law3 rfl rfl rfl)
theorem dL_law_1774 : decode cL_law 1774 = .ok (.iaload, 1) := dk_0 (dk_k46 1774) (dk_by (j := 14) rfl ck_L_law_110_31law3 rfl rfl rfl)
theorem dL_law_1775 : decode cL_law 1775 = .ok (.aload_n 0, 1) := dk_0 (dk_k42 1775) (dk_by (j := 15) rfl ck_L_law_110_31law3 rfl rfl rfl)
theorem dL_law_1776 : decode cL_law 1776 = .ok (.iload_n 3, 1) := dk_0 (dk_k29 1776) (dk_by (j := 0) rfl ck_L_law_111_31law3 rfl rfl rfl)
theorem dL_law_1777 : decode cL_law 1777 = .ok (.iconst 2, 1) := dk_0 (dk_k5 1777) (dk_by (j := 1) rfl ck_L_law_111_31law3 rfl rfl rfl)
theorem dL_law_1778 : decode cL_law 1778 = .ok (.iadd, 1) := dk_0 (dk_k96 1778) (dk_by (j := 2) rfl ck_L_law_111_31law3 rfl rfl rfl)
theorem dL_law_1779 : decode cL_law 1779 = .ok (.iaload, 1) := dk_0 (dk_k46 1779) (dk_by (j := 3) rfl ck_L_law_111_31law3 rfl rfl rfl)
theorem dL_law_1780 : decode cL_law 1780 = .ok (.aload_n 0, 1) := dk_0 (dk_k42 1780) (dk_by (j := 4) rfl ck_L_law_111_31law3 rfl rfl rfl)
theorem dL_law_1781 : decode cL_law 1781 = .ok (.iload_n 3, 1) := dk_0 (dk_k29 1781) (dk_by (j := 5) rfl ck_L_law_111_31law3 rfl rfl rfl)
theorem dL_law_1782 : decode cL_law 1782 = .ok (.iconst 3, 1) := dk_0 (dk_k6 1782) (dk_by (j := 6) rfl ck_L_law_111_31law3 rfl rfl rfl)
theorem dL_law_1783 : decode cL_law 1783 = .ok (.iadd, 1) := dk_0 (dk_k96 1783) (dk_by (j := 7) rfl ck_L_law_111_31law3 rfl rfl rfl)
theorem dL_law_1784 : decode cL_law 1784 = .ok (.iaload, 1) := dk_0 (dk_k46 1784) (dk_by (j := 8) rfl ck_L_law_111_31law3 rfl rfl rfl)
theorem dL_law_1785 : decode cL_law 1785 = .ok (.aload_n 0, 1) := dk_0 (dk_k42 1785) (dk_by (j := 9) rfl ck_L_law_111_31law3 rfl rfl rfl)
theorem dL_law_1786 : decode cL_law 1786 = .ok (.iload_n 3, 1) := dk_0 (dk_k29 1786) (dk_by (j := 10) rfl ck_L_law_111_31law3 rfl rfl rfl)
theorem dL_law_1787 : decode cL_law 1787 = .ok (.iconst 4, 1) := dk_0 (dk_k7 1787) (dk_by (j := 11) rfl ck_L_law_111_31law3 rfl rfl rfl)
theorem dL_law_1788 : decode cL_law 1788 = .ok (.iadd, 1) := dk_0 (dk_k96 1788) (dk_by (j := 12) rfl ck_L_law_111_31law3 rfl rfl rfl)
theorem dL_law_1789 : decode cL_law 1789 = .ok (.iaload, 1) := dk_0 (dk_k46 1789) (dk_by (j := 13) rfl ck_L_law_111_31law3 rfl rfl rfl)
theorem dL_law_1790 : decode cL_law 1790 = .ok (.aload_n 0, 1) := dk_0 (dk_k42 1790) (dk_by (j := 14) rfl ck_L_law_111_31law3 rfl rfl rfl)
theorem dL_law_1791 : decode cL_law 1791 = .ok (.iload_n 3, 1) := dk_0 (dk_k29 1791) (dk_by (j := 15) rfl ck_L_law_111_31law3 rfl rfl rfl)
theorem dL_law_1792 : decode cL_law 1792 = .ok (.iconst 5, 1) := dk_0 (dk_k8 1792) (dk_by (j := 0) rfl ck_L_law_112_31law3 rfl rfl rfl)
theorem dL_law_1793 : decode cL_law 1793 = .ok (.iadd, 1) := dk_0 (dk_k96 1793) (dk_by (j := 1) rfl ck_L_law_112_31law3 rfl rfl rfl)
theorem dL_law_1794 : decode cL_law 1794 = .ok (.iaload, 1) := dk_0 (dk_k46 1794) (dk_by (j := 2) rfl ck_L_law_112_31law3 rfl rfl rfl)
theorem gL_law_X12_fixes : GoodIn lw_tbl (wsV RL 173 RX12 yX12_fixes wsX12_fixes) := ru_gL (ru_gV tw_7_219 tw_7_220 tw_7_221 tw_1_12 mT_X12_fixes)
theorem dL_law_1795 : decode cL_law 1795 = .ok (.invokevirtual 173, 3) := dk_2 (dk_k182 1795) (dk_by (j := 3) rfl ck_L_law_112_31law3 rfl rfl rfl) (dk_by (j := 4) rfl ck_L_law_112_31law3 rfl rfl rfl) (dk_by (j := 5) rfl ck_L_law_112_31law3 rfl rfl rfl) (by decide)
theorem dL_law_1798 : decode cL_law 1798 = .ok (.pop, 1) := dk_0 (dk_k87 1798) (dk_by (j := 6) rfl ck_L_law_112_31law3 rfl rfl rfl)
theorem dL_law_1799 : decode cL_law 1799 = .ok (.goto 36, 3) := dk_s (dk_k167 1799) (dk_by (j := 7) rfl ck_L_law_112_31law3 rfl rfl rfl) (dk_by (j := 8) rfl ck_L_law_112_31law3 rfl rfl rfl) (dk_by (j := 9) rfl ck_L_law_112_31law3 rfl rfl rfl) (by decide)
theorem dL_law_1802 : decode cL_law 1802 = .ok (.aload_n 1, 1) := dk_0 (dk_k43 1802) (dk_by (j := 10) rfl ck_L_law_112_31law3 rfl rfl rfl)
theorem dL_law_1803 : decode cL_law 1803 = .ok (.aload_n 0, 1) := dk_0 (dk_k42 1803) (dk_by (j := 11) rfl ck_L_law_112_31law3 rfl rfl rfl)
theorem dL_law_1804 : decode cL_law 1804 = .ok (.iload_n 3, 1) := dk_0 (dk_k29 1804) (dk_by (j := 12) rfl ck_L_law_112_31law3 rfl rfl rfl)
theorem dL_law_1805 : decode cL_law 1805 = .ok (.iconst 1, 1) := dk_0 (dk_k4 1805) (dk_by (j := 13) rfl ck_L_law_112_31law3 rfl rfl rfl)
theorem dL_law_1806 : decode cL_law 1806 = .ok (.iadd, 1) := dk_0 (dk_k96 1806) (dk_by (j := 14) rfl ck_L_law_112_31law3 rfl rfl rfl)
theorem dL_law_1807 : decode cL_law 1807 = .ok (.iaload, 1) := dk_0 (dk_k46 1807) (dk_by (j := 15) rfl ck_L_law_112_31law3 rfl rfl rfl)
theorem dL_law_1808 : decode cL_law 1808 = .ok (.aload_n 0, 1) := dk_0 (dk_k42 1808) (dk_by (j := 0) rfl ck_L_law_113_31law3 rfl rfl rfl)
theorem dL_law_1809 : decode cL_law 1809 = .ok (.iload_n 3, 1) := dk_0 (dk_k29 1809) (dk_by (j := 1) rfl ck_L_law_113_31law3 rfl rfl rfl)
theorem dL_law_1810 : decode cL_law 1810 = .ok (.iconst 2, 1) := dk_0 (dk_k5 1810) (dk_by (j := 2) rfl ck_L_law_113_31law3 rfl rfl rfl)
theorem dL_law_1811 : decode cL_law 1811 = .ok (.iadd, 1) := dk_0 (dk_k96 1811) (dk_by (j := 3) rfl ck_L_law_113_31law3 rfl rfl rfl)
theorem dL_law_1812 : decode cL_law 1812 = .ok (.iaload, 1) := dk_0 (dk_k46 1812) (dk_by (j := 4) rfl ck_L_law_113_31law3 rfl rfl rfl)
theorem gL_law_X11_taken : GoodIn lw_tbl (wsV RL 174 RX11 yX11_taken wsX11_taken) := ru_gL (ru_gV tw_5_107 tw_5_108 tw_5_109 tw_1_1 mT_X11_taken)
theorem dL_law_1813 : decode cL_law 1813 = .ok (.invokevirtual 174, 3) := dk_2 (dk_k182 1813) (dk_by (j := 5) rfl ck_L_law_113_31law3 rfl rfl rfl) (dk_by (j := 6) rfl ck_L_law_113_31law3 rfl rfl rfl) (dk_by (j := 7) rfl ck_L_law_113_31law3 rfl rfl rfl) (by decide)
theorem dL_law_1816 : decode cL_law 1816 = .ok (.pop, 1) := dk_0 (dk_k87 1816) (dk_by (j := 8) rfl ck_L_law_113_31law3 rfl rfl rfl)
theorem dL_law_1817 : decode cL_law 1817 = .ok (.aload_n 2, 1) := dk_0 (dk_k44 1817) (dk_by (j := 9) rfl ck_L_law_113_31law3 rfl rfl rfl)
theorem dL_law_1818 : decode cL_law 1818 = .ok (.aload_n 0, 1) := dk_0 (dk_k42 1818) (dk_by (j := 10) rfl ck_L_law_113_31law3 rfl rfl rfl)
theorem dL_law_1819 : decode cL_law 1819 = .ok (.iload_n 3, 1) := dk_0 (dk_k29 1819) (dk_by (j := 11) rfl ck_L_law_113_31law3 rfl rfl rfl)
theorem dL_law_1820 : decode cL_law 1820 = .ok (.iconst 1, 1) := dk_0 (dk_k4 1820) (dk_by (j := 12) rfl ck_L_law_113_31law3 rfl rfl rfl)
theorem dL_law_1821 : decode cL_law 1821 = .ok (.iadd, 1) := dk_0 (dk_k96 1821) (dk_by (j := 13) rfl ck_L_law_113_31law3 rfl rfl rfl)
theorem dL_law_1822 : decode cL_law 1822 = .ok (.iaload, 1) := dk_0 (dk_k46 1822) (dk_by (j := 14) rfl ck_L_law_113_31law3 rfl rfl rfl)
theorem dL_law_1823 : decode cL_law 1823 = .ok (.aload_n 0, 1) := dk_0 (dk_k42 1823) (dk_by (j := 15) rfl ck_L_law_113_31law3 rfl rfl rfl)
theorem dL_law_1824 : decode cL_law 1824 = .ok (.iload_n 3, 1) := dk_0 (dk_k29 1824) (dk_by (j := 0) rfl ck_L_law_114_31law3 rfl rfl rfl)
theorem dL_law_1825 : decode cL_law 1825 = .ok (.iconst 2, 1) := dk_0 (dk_k5 1825) (dk_by (j := 1) rfl ck_L_law_114_31law3 rfl rfl rfl)
theorem dL_law_1826 : decode cL_law 1826 = .ok (.iadd, 1) := dk_0 (dk_k96 1826) (dk_by (j := 2) rfl ck_L_law_114_31law3 rfl rfl rfl)
theorem dL_law_1827 : decode cL_law 1827 = .ok (.iaload, 1) := dk_0 (dk_k46 1827) (dk_by (j := 3) rfl ck_L_law_114_31law3 rfl rfl rfl)
theorem gL_law_X12_taken : GoodIn lw_tbl (wsV RL 177 RX12 yX12_taken wsX12_taken) := ru_gL (ru_gV tw_7_224 tw_7_225 tw_7_226 tw_1_12 mT_X12_taken)
theorem dL_law_1828 : decode cL_law 1828 = .ok (.invokevirtual 177, 3) := dk_2 (dk_k182 1828) (dk_by (j := 4) rfl ck_L_law_114_31law3 rfl rfl rfl) (dk_by (j := 5) rfl ck_L_law_114_31law3 rfl rfl rfl) (dk_by (j := 6) rfl ck_L_law_114_31law3 rfl rfl rfl) (by decide)
theorem dL_law_1831 : decode cL_law 1831 = .ok (.pop, 1) := dk_0 (dk_k87 1831) (dk_by (j := 7) rfl ck_L_law_114_31law3 rfl rfl rfl)
theorem dL_law_1832 : decode cL_law 1832 = .ok (.goto 3, 3) := dk_s (dk_k167 1832) (dk_by (j := 8) rfl ck_L_law_114_31law3 rfl rfl rfl) (dk_by (j := 9) rfl ck_L_law_114_31law3 rfl rfl rfl) (dk_by (j := 10) rfl ck_L_law_114_31law3 rfl rfl rfl) (by decide)
set_option maxHeartbeats 1000000 in
set_option maxRecDepth 20000 in
theorem lb_29 {p : Program} {l : Launch} {e : Env} {s : State} {m : MethodId} {below : List Frame} {meth : Method} {c : Code} {D : va_G} {ad : Nat → Nat → Nat} {C : Nat → Nat → ClassId} {nb : Nat} {M : fm_M} {b L : Nat} {xs : Nat → Int32} {H : Heap} {locs : List Loc} {kc sl : Nat} {i : Int32} (C0 : lw_At p s m meth c b L xs) (hkc : kc ≤ 10000) (hsl : sl ≤ 300000) (hc : fm_Cx D ad C nb (fun q : Nat => s.heap.size ≤ q) s) (hw : fm_at D ad C nb M H) (hI : fm_I nb ad M) (hS : va_S (fun q : Nat => s.heap.size ≤ q) s.heap H locs) (hi : 0 ≤ i.toInt ∧ i.toInt + 6 ≤ L) (hL : L ≤ 3072) (hrel : M.1 0 0 10 = M.1 60 0 16 ∧ M.1 0 0 9 = M.1 60 0 0 ∧ M.1 0 0 11 = M.1 60 0 21 ∧ (∀ j : Nat, j < nb → M.1 50 j 2 = M.1 111 0 j) ∧ (∀ j : Nat, j < 4 → M.1 46 j 1 = M.1 175 0 j) ∧ (∀ j : Nat, j < 4 → M.1 46 j 2 = M.1 176 0 j) ∧ (∀ j : Nat, j < nb → M.1 50 j 0 = M.1 110 0 j) ∧ (∀ j : Nat, j < nb → M.1 50 j 1 = M.1 112 0 j) ∧ M.1 1 0 2 = M.1 60 0 5 ∧ M.1 27 0 1 = M.1 60 0 52 ∧ M.1 27 0 3 = M.1 60 0 55 ∧ (∀ j : Nat, M.1 28 0 j = M.1 151 0 j) ∧ M.1 27 0 4 = M.1 60 0 56 ∧ M.1 21 0 5 = M.1 60 0 44 ∧ (∀ j : Nat, M.1 22 0 j = M.1 140 0 j) ∧ (∀ j : Nat, M.1 23 0 j = M.1 141 0 j) ∧ (∀ j : Nat, M.1 24 0 j = M.1 142 0 j) ∧ (∀ j : Nat, M.1 25 0 j = M.1 143 0 j) ∧ (∀ j : Nat, j < nb → M.1 50 j 4 = M.1 115 0 j) ∧ (∀ s i : Nat, s < 4 → i < 40 → M.1 47 s i = M.1 177 0 (40 * s + i)) ∧ rt_WN M ∧ rt_PC nb M ∧ rt_FB M ∧ (∀ j : Nat, j < nb → rt_nkM M j = rt_nmM M j) ∧ rt_BN nb M ∧ (∀ k : Nat, (k : Int) < (M.1 27 0 3).toInt → rt_TR M k) ∧ (M.1 27 0 4).toInt < (M.1 27 0 3).toInt ∧ (∀ k : Nat, (k : Int) < (M.1 21 0 5).toInt → (M.1 22 0 k).toInt < nb)) (kk : ∀ (M1 : fm_M) (H1 : Heap) (locs1 : List Loc), fm_at D ad C nb M1 H1 → fm_I nb ad M1 → va_S (fun q : Nat => s.heap.size ≤ q) s.heap H1 locs1 → M1.1 0 0 10 = M1.1 60 0 16 ∧ M1.1 0 0 9 = M1.1 60 0 0 ∧ M1.1 0 0 11 = M1.1 60 0 21 ∧ (∀ j : Nat, j < nb → M1.1 50 j 2 = M1.1 111 0 j) ∧ (∀ j : Nat, j < 4 → M1.1 46 j 1 = M1.1 175 0 j) ∧ (∀ j : Nat, j < 4 → M1.1 46 j 2 = M1.1 176 0 j) ∧ (∀ j : Nat, j < nb → M1.1 50 j 0 = M1.1 110 0 j) ∧ (∀ j : Nat, j < nb → M1.1 50 j 1 = M1.1 112 0 j) ∧ M1.1 1 0 2 = M1.1 60 0 5 ∧ M1.1 27 0 1 = M1.1 60 0 52 ∧ M1.1 27 0 3 = M1.1 60 0 55 ∧ (∀ j : Nat, M1.1 28 0 j = M1.1 151 0 j) ∧ M1.1 27 0 4 = M1.1 60 0 56 ∧ M1.1 21 0 5 = M1.1 60 0 44 ∧ (∀ j : Nat, M1.1 22 0 j = M1.1 140 0 j) ∧ (∀ j : Nat, M1.1 23 0 j = M1.1 141 0 j) ∧ (∀ j : Nat, M1.1 24 0 j = M1.1 142 0 j) ∧ (∀ j : Nat, M1.1 25 0 j = M1.1 143 0 j) ∧ (∀ j : Nat, j < nb → M1.1 50 j 4 = M1.1 115 0 j) ∧ (∀ s i : Nat, s < 4 → i < 40 → M1.1 47 s i = M1.1 177 0 (40 * s + i)) ∧ rt_WN M1 ∧ rt_PC nb M1 ∧ rt_FB M1 ∧ (∀ j : Nat, j < nb → rt_nkM M1 j = rt_nmM M1 j) ∧ rt_BN nb M1 ∧ (∀ k : Nat, (k : Int) < (M1.1 27 0 3).toInt → rt_TR M1 k) ∧ (M1.1 27 0 4).toInt < (M1.1 27 0 3).toInt ∧ (∀ k : Nat, (k : Int) < (M1.1 21 0 5).toInt → (M1.1 22 0 k).toInt < nb) → ∀ ls : Array Slot, lv_has ls 4 [(3, .int i), (2, .ref (ad 60 0)), (1, .ref (ad 0 0)), (0, .ref b)] → W p l e room_1 s m #[Value.ref b] below meth c H1 locs1 kc sl (lw_Z below #[Value.ref b] s) (F0 m 1835 ls [])) (ls : Array Slot) (hl : lv_has ls 4 [(3, .int i), (2, .ref (ad 60 0)), (1, .ref (ad 0 0)), (0, .ref b)]) : W p l e room_1 s m #[Value.ref b] below meth c H locs kc sl (lw_Z below #[Value.ref b] s) (F0 m 1438 ls []) := by
  obtain ⟨hx, hb, hr, hml, hown, hts, hX, hbl, hlocks, hgv⟩ := id C0
  have hown : s.vm.findClass RL = some m.cls := hown
  have hb : c.code = cL_law := hb
  have hbA : ¬ (fun q : Nat => s.heap.size ≤ q) b := Nat.not_le.mpr hbl
  have hk1 : kc + 0 ≤ room_1.cells := by show kc + 0 ≤ 600000; omega
  have hs1 : sl + 0 ≤ room_1.slots := by show sl + 0 ≤ 7302250; omega
  have hI0 := hI
  have hPC : rt_PC nb M := hrel.2.2.2.2.2.2.2.2.2.2.2.2.2.2.2.2.2.2.2.2.2.1
  have hCI : rt_CI nb M := hPC.1
  have hTI : rt_TI nb M := hPC.2.1
  have hBN : rt_BN nb M := hrel.2.2.2.2.2.2.2.2.2.2.2.2.2.2.2.2.2.2.2.2.2.2.2.2.1
  refine lv_aload_n hx hb dL_law_1438 rfl (lv_at hl 2 rfl) ?_
  refine lv_aload_n hx hb dL_law_1439 rfl (lv_at hl 3 rfl) ?_
  refine lv_iload_n hx hb dL_law_1440 rfl (lv_at hl 0 rfl) ?_
  refine lv_iconst (v := 1) hx hb dL_law_1441 (by decide) ?_
  refine fx_iadd hx hb dL_law_1442 rfl zk_1 (by omega) (fun y1 ey1 ty1 => ?_)
  refine va_sld hx hb hX hbl hbA hS (fm_in (by omega)) dL_law_1443 ?_
  refine lv_topi (fun x2 ex2 => ?_)
  refine lv_aload_n hx hb dL_law_1444 rfl (lv_at hl 3 rfl) ?_
  refine lv_iload_n hx hb dL_law_1445 rfl (lv_at hl 0 rfl) ?_
  refine lv_iconst (v := 2) hx hb dL_law_1446 (by decide) ?_
  refine fx_iadd hx hb dL_law_1447 rfl zk_2 (by omega) (fun y3 ey3 ty3 => ?_)
  refine va_sld hx hb hX hbl hbA hS (fm_in (by omega)) dL_law_1448 ?_
  refine lv_topi (fun x4 ex4 => ?_)
  refine vp_callSi (va_Run.run (va_runV (As := [.int x2, .int x4]) (rest := []) ⟨hx, hb, hml, hown, hts⟩ (fc_X11_clash l D ad C nb M hI x2 x4) (cwV 2 hts gL_law_X11_clash rfl rfl rfl (by decide +kernel) ⟨Nat.le_of_ble_eq_true rfl, Nat.le_of_ble_eq_true rfl⟩) (fm_preV hc hw hS kl_0 sh_0 rfl) rfl rfl hl.1 rfl (lv_room (Nat.le_of_ble_eq_true rfl)) dL_law_1449 ⟨hk1, hs1⟩)) (fun r5 hr5 => ?_)
  refine lv_pop hx hb dL_law_1452 rfl ?_
  refine lv_aload_n hx hb dL_law_1453 rfl (lv_at hl 1 rfl) ?_
  refine lv_aload_n hx hb dL_law_1454 rfl (lv_at hl 3 rfl) ?_
  refine lv_iload_n hx hb dL_law_1455 rfl (lv_at hl 0 rfl) ?_
  refine lv_iconst (v := 1) hx hb dL_law_1456 (by decide) ?_
  refine fx_iadd hx hb dL_law_1457 rfl zk_1 (by omega) (fun y6 ey6 ty6 => ?_)
  refine va_sld hx hb hX hbl hbA hS (fm_in (by omega)) dL_law_1458 ?_
  refine lv_topi (fun x7 ex7 => ?_)
  have qx7 : x2 = x7 := by rw [ex7, ex2, ey6, ey1]
  clear ex7
  subst qx7
  refine lv_aload_n hx hb dL_law_1459 rfl (lv_at hl 3 rfl) ?_
  refine lv_iload_n hx hb dL_law_1460 rfl (lv_at hl 0 rfl) ?_
  refine lv_iconst (v := 2) hx hb dL_law_1461 (by decide) ?_
  refine fx_iadd hx hb dL_law_1462 rfl zk_2 (by omega) (fun y8 ey8 ty8 => ?_)
  refine va_sld hx hb hX hbl hbA hS (fm_in (by omega)) dL_law_1463 ?_
  refine lv_topi (fun x9 ex9 => ?_)
  have qx9 : x4 = x9 := by rw [ex9, ex4, ey8, ey3]
  clear ex9
  subst qx9
  refine vp_callSi (va_Run.run (va_runV (As := [.int x2, .int x4]) (rest := []) ⟨hx, hb, hml, hown, hts⟩ (fc_X12_clash l D ad C nb M hI x2 x4) (cwV 2 hts gL_law_X12_clash rfl rfl rfl (by decide +kernel) ⟨Nat.le_of_ble_eq_true rfl, Nat.le_of_ble_eq_true rfl⟩) (fm_preV hc hw hS kl_60 sh_60 rfl) rfl rfl hl.1 rfl (lv_room (Nat.le_of_ble_eq_true rfl)) dL_law_1464 ⟨hk1, hs1⟩)) (fun r10 hr10 => ?_)
  refine lv_pop hx hb dL_law_1467 rfl ?_
  refine lv_goto (tgt := 1835) hx hb dL_law_1468 (by decide) ?_
  have hr90 : M.1 0 0 10 = M.1 60 0 16 := hrel.1
  have hr91 : M.1 0 0 9 = M.1 60 0 0 := hrel.2.1
  have hr92 : M.1 0 0 11 = M.1 60 0 21 := hrel.2.2.1
  have hr93 : (∀ j : Nat, j < nb → M.1 50 j 2 = M.1 111 0 j) := fun j hj => by exact hrel.2.2.2.1 j hj
  have hr94 : (∀ j : Nat, j < 4 → M.1 46 j 1 = M.1 175 0 j) := fun j hj => by exact hrel.2.2.2.2.1 j hj
  have hr95 : (∀ j : Nat, j < 4 → M.1 46 j 2 = M.1 176 0 j) := fun j hj => by exact hrel.2.2.2.2.2.1 j hj
  have hr96 : (∀ j : Nat, j < nb → M.1 50 j 0 = M.1 110 0 j) := fun j hj => by exact hrel.2.2.2.2.2.2.1 j hj
  have hr97 : (∀ j : Nat, j < nb → M.1 50 j 1 = M.1 112 0 j) := fun j hj => by exact hrel.2.2.2.2.2.2.2.1 j hj
  have hr98 : M.1 1 0 2 = M.1 60 0 5 := hrel.2.2.2.2.2.2.2.2.1
  have hr99 : M.1 27 0 1 = M.1 60 0 52 := hrel.2.2.2.2.2.2.2.2.2.1
  have hr910 : M.1 27 0 3 = M.1 60 0 55 := hrel.2.2.2.2.2.2.2.2.2.2.1
  have hr911 : (∀ j : Nat, M.1 28 0 j = M.1 151 0 j) := fun j => by exact hrel.2.2.2.2.2.2.2.2.2.2.2.1 j
  have hr912 : M.1 27 0 4 = M.1 60 0 56 := hrel.2.2.2.2.2.2.2.2.2.2.2.2.1
  have hr913 : M.1 21 0 5 = M.1 60 0 44 := hrel.2.2.2.2.2.2.2.2.2.2.2.2.2.1
  have hr914 : (∀ j : Nat, M.1 22 0 j = M.1 140 0 j) := fun j => by exact hrel.2.2.2.2.2.2.2.2.2.2.2.2.2.2.1 j
  have hr915 : (∀ j : Nat, M.1 23 0 j = M.1 141 0 j) := fun j => by exact hrel.2.2.2.2.2.2.2.2.2.2.2.2.2.2.2.1 j
  have hr916 : (∀ j : Nat, M.1 24 0 j = M.1 142 0 j) := fun j => by exact hrel.2.2.2.2.2.2.2.2.2.2.2.2.2.2.2.2.1 j
  have hr917 : (∀ j : Nat, M.1 25 0 j = M.1 143 0 j) := fun j => by exact hrel.2.2.2.2.2.2.2.2.2.2.2.2.2.2.2.2.2.1 j
  have hr918 : (∀ j : Nat, j < nb → M.1 50 j 4 = M.1 115 0 j) := fun j hj => by exact hrel.2.2.2.2.2.2.2.2.2.2.2.2.2.2.2.2.2.2.1 j hj
  have hs90 : (∀ s i : Nat, s < 4 → i < 40 → M.1 47 s i = M.1 177 0 (40 * s + i)) := fun s i hs hi => by exact hrel.2.2.2.2.2.2.2.2.2.2.2.2.2.2.2.2.2.2.2.1 s i hs hi
  have hs91_1 : rt_WN M := hrel.2.2.2.2.2.2.2.2.2.2.2.2.2.2.2.2.2.2.2.2.1
  have hs91 : rt_WN M := hs91_1
  have hs92_1 : rt_PC nb M := hrel.2.2.2.2.2.2.2.2.2.2.2.2.2.2.2.2.2.2.2.2.2.1
  have hs92 : rt_PC nb M := hs92_1
  have hs93_1 : rt_FB M := hrel.2.2.2.2.2.2.2.2.2.2.2.2.2.2.2.2.2.2.2.2.2.2.1
  have hs93 : rt_FB M := hs93_1
  have hs94 : (∀ j : Nat, j < nb → rt_nkM M j = rt_nmM M j) := by exact hrel.2.2.2.2.2.2.2.2.2.2.2.2.2.2.2.2.2.2.2.2.2.2.2.1
  have hs95_1 : rt_BN nb M := hrel.2.2.2.2.2.2.2.2.2.2.2.2.2.2.2.2.2.2.2.2.2.2.2.2.1
  have hs95 : rt_BN nb M := hs95_1
  have hs96_1 : (∀ k : Nat, (k : Int) < (M.1 27 0 3).toInt → rt_TR M k) := hrel.2.2.2.2.2.2.2.2.2.2.2.2.2.2.2.2.2.2.2.2.2.2.2.2.2.1
  have hs96 : (∀ k : Nat, (k : Int) < (M.1 27 0 3).toInt → rt_TR M k) := hs96_1
  have hs97 : (M.1 27 0 4).toInt < (M.1 27 0 3).toInt := hrel.2.2.2.2.2.2.2.2.2.2.2.2.2.2.2.2.2.2.2.2.2.2.2.2.2.2.1
  have hs98_1 : (∀ k : Nat, (k : Int) < (M.1 21 0 5).toInt → (M.1 22 0 k).toInt < nb) := hrel.2.2.2.2.2.2.2.2.2.2.2.2.2.2.2.2.2.2.2.2.2.2.2.2.2.2.2
  have hs98 : (∀ k : Nat, (k : Int) < (M.1 21 0 5).toInt → (M.1 22 0 k).toInt < nb) := hs98_1
  have hrel9 : M.1 0 0 10 = M.1 60 0 16 ∧ M.1 0 0 9 = M.1 60 0 0 ∧ M.1 0 0 11 = M.1 60 0 21 ∧ (∀ j : Nat, j < nb → M.1 50 j 2 = M.1 111 0 j) ∧ (∀ j : Nat, j < 4 → M.1 46 j 1 = M.1 175 0 j) ∧ (∀ j : Nat, j < 4 → M.1 46 j 2 = M.1 176 0 j) ∧ (∀ j : Nat, j < nb → M.1 50 j 0 = M.1 110 0 j) ∧ (∀ j : Nat, j < nb → M.1 50 j 1 = M.1 112 0 j) ∧ M.1 1 0 2 = M.1 60 0 5 ∧ M.1 27 0 1 = M.1 60 0 52 ∧ M.1 27 0 3 = M.1 60 0 55 ∧ (∀ j : Nat, M.1 28 0 j = M.1 151 0 j) ∧ M.1 27 0 4 = M.1 60 0 56 ∧ M.1 21 0 5 = M.1 60 0 44 ∧ (∀ j : Nat, M.1 22 0 j = M.1 140 0 j) ∧ (∀ j : Nat, M.1 23 0 j = M.1 141 0 j) ∧ (∀ j : Nat, M.1 24 0 j = M.1 142 0 j) ∧ (∀ j : Nat, M.1 25 0 j = M.1 143 0 j) ∧ (∀ j : Nat, j < nb → M.1 50 j 4 = M.1 115 0 j) ∧ (∀ s i : Nat, s < 4 → i < 40 → M.1 47 s i = M.1 177 0 (40 * s + i)) ∧ rt_WN M ∧ rt_PC nb M ∧ rt_FB M ∧ (∀ j : Nat, j < nb → rt_nkM M j = rt_nmM M j) ∧ rt_BN nb M ∧ (∀ k : Nat, (k : Int) < (M.1 27 0 3).toInt → rt_TR M k) ∧ (M.1 27 0 4).toInt < (M.1 27 0 3).toInt ∧ (∀ k : Nat, (k : Int) < (M.1 21 0 5).toInt → (M.1 22 0 k).toInt < nb) := ⟨hr90, hr91, hr92, hr93, hr94, hr95, hr96, hr97, hr98, hr99, hr910, hr911, hr912, hr913, hr914, hr915, hr916, hr917, hr918, hs90, hs91, hs92, hs93, hs94, hs95, hs96, hs97, hs98⟩
  exact kk M _ _ hw hI hS hrel9 ls (lv_sub hl [0, 1, 2, 3] rfl)
set_option maxHeartbeats 1000000 in
set_option maxRecDepth 20000 in
theorem lb_30 {p : Program} {l : Launch} {e : Env} {s : State} {m : MethodId} {below : List Frame} {meth : Method} {c : Code} {D : va_G} {ad : Nat → Nat → Nat} {C : Nat → Nat → ClassId} {nb : Nat} {M : fm_M} {b L : Nat} {xs : Nat → Int32} {H : Heap} {locs : List Loc} {kc sl : Nat} {i : Int32} (C0 : lw_At p s m meth c b L xs) (hkc : kc ≤ 10000) (hsl : sl ≤ 300000) (hc : fm_Cx D ad C nb (fun q : Nat => s.heap.size ≤ q) s) (hw : fm_at D ad C nb M H) (hI : fm_I nb ad M) (hS : va_S (fun q : Nat => s.heap.size ≤ q) s.heap H locs) (hi : 0 ≤ i.toInt ∧ i.toInt + 6 ≤ L) (hL : L ≤ 3072) (hrel : M.1 0 0 10 = M.1 60 0 16 ∧ M.1 0 0 9 = M.1 60 0 0 ∧ M.1 0 0 11 = M.1 60 0 21 ∧ (∀ j : Nat, j < nb → M.1 50 j 2 = M.1 111 0 j) ∧ (∀ j : Nat, j < 4 → M.1 46 j 1 = M.1 175 0 j) ∧ (∀ j : Nat, j < 4 → M.1 46 j 2 = M.1 176 0 j) ∧ (∀ j : Nat, j < nb → M.1 50 j 0 = M.1 110 0 j) ∧ (∀ j : Nat, j < nb → M.1 50 j 1 = M.1 112 0 j) ∧ M.1 1 0 2 = M.1 60 0 5 ∧ M.1 27 0 1 = M.1 60 0 52 ∧ M.1 27 0 3 = M.1 60 0 55 ∧ (∀ j : Nat, M.1 28 0 j = M.1 151 0 j) ∧ M.1 27 0 4 = M.1 60 0 56 ∧ M.1 21 0 5 = M.1 60 0 44 ∧ (∀ j : Nat, M.1 22 0 j = M.1 140 0 j) ∧ (∀ j : Nat, M.1 23 0 j = M.1 141 0 j) ∧ (∀ j : Nat, M.1 24 0 j = M.1 142 0 j) ∧ (∀ j : Nat, M.1 25 0 j = M.1 143 0 j) ∧ (∀ j : Nat, j < nb → M.1 50 j 4 = M.1 115 0 j) ∧ (∀ s i : Nat, s < 4 → i < 40 → M.1 47 s i = M.1 177 0 (40 * s + i)) ∧ rt_WN M ∧ rt_PC nb M ∧ rt_FB M ∧ (∀ j : Nat, j < nb → rt_nkM M j = rt_nmM M j) ∧ rt_BN nb M ∧ (∀ k : Nat, (k : Int) < (M.1 27 0 3).toInt → rt_TR M k) ∧ (M.1 27 0 4).toInt < (M.1 27 0 3).toInt ∧ (∀ k : Nat, (k : Int) < (M.1 21 0 5).toInt → (M.1 22 0 k).toInt < nb)) (kk : ∀ (M1 : fm_M) (H1 : Heap) (locs1 : List Loc), fm_at D ad C nb M1 H1 → fm_I nb ad M1 → va_S (fun q : Nat => s.heap.size ≤ q) s.heap H1 locs1 → M1.1 0 0 10 = M1.1 60 0 16 ∧ M1.1 0 0 9 = M1.1 60 0 0 ∧ M1.1 0 0 11 = M1.1 60 0 21 ∧ (∀ j : Nat, j < nb → M1.1 50 j 2 = M1.1 111 0 j) ∧ (∀ j : Nat, j < 4 → M1.1 46 j 1 = M1.1 175 0 j) ∧ (∀ j : Nat, j < 4 → M1.1 46 j 2 = M1.1 176 0 j) ∧ (∀ j : Nat, j < nb → M1.1 50 j 0 = M1.1 110 0 j) ∧ (∀ j : Nat, j < nb → M1.1 50 j 1 = M1.1 112 0 j) ∧ M1.1 1 0 2 = M1.1 60 0 5 ∧ M1.1 27 0 1 = M1.1 60 0 52 ∧ M1.1 27 0 3 = M1.1 60 0 55 ∧ (∀ j : Nat, M1.1 28 0 j = M1.1 151 0 j) ∧ M1.1 27 0 4 = M1.1 60 0 56 ∧ M1.1 21 0 5 = M1.1 60 0 44 ∧ (∀ j : Nat, M1.1 22 0 j = M1.1 140 0 j) ∧ (∀ j : Nat, M1.1 23 0 j = M1.1 141 0 j) ∧ (∀ j : Nat, M1.1 24 0 j = M1.1 142 0 j) ∧ (∀ j : Nat, M1.1 25 0 j = M1.1 143 0 j) ∧ (∀ j : Nat, j < nb → M1.1 50 j 4 = M1.1 115 0 j) ∧ (∀ s i : Nat, s < 4 → i < 40 → M1.1 47 s i = M1.1 177 0 (40 * s + i)) ∧ rt_WN M1 ∧ rt_PC nb M1 ∧ rt_FB M1 ∧ (∀ j : Nat, j < nb → rt_nkM M1 j = rt_nmM M1 j) ∧ rt_BN nb M1 ∧ (∀ k : Nat, (k : Int) < (M1.1 27 0 3).toInt → rt_TR M1 k) ∧ (M1.1 27 0 4).toInt < (M1.1 27 0 3).toInt ∧ (∀ k : Nat, (k : Int) < (M1.1 21 0 5).toInt → (M1.1 22 0 k).toInt < nb) → ∀ ls : Array Slot, lv_has ls 4 [(3, .int i), (2, .ref (ad 60 0)), (1, .ref (ad 0 0)), (0, .ref b)] → W p l e room_1 s m #[Value.ref b] below meth c H1 locs1 kc sl (lw_Z below #[Value.ref b] s) (F0 m 1835 ls [])) (ls : Array Slot) (hl : lv_has ls 4 [(3, .int i), (2, .ref (ad 60 0)), (1, .ref (ad 0 0)), (0, .ref b)]) : W p l e room_1 s m #[Value.ref b] below meth c H locs kc sl (lw_Z below #[Value.ref b] s) (F0 m 1471 ls []) := by
  obtain ⟨hx, hb, hr, hml, hown, hts, hX, hbl, hlocks, hgv⟩ := id C0
  have hown : s.vm.findClass RL = some m.cls := hown
  have hb : c.code = cL_law := hb
  have hbA : ¬ (fun q : Nat => s.heap.size ≤ q) b := Nat.not_le.mpr hbl
  have hk1 : kc + 0 ≤ room_1.cells := by show kc + 0 ≤ 600000; omega
  have hs1 : sl + 0 ≤ room_1.slots := by show sl + 0 ≤ 7302250; omega
  have hI0 := hI
  have hPC : rt_PC nb M := hrel.2.2.2.2.2.2.2.2.2.2.2.2.2.2.2.2.2.2.2.2.2.1
  have hCI : rt_CI nb M := hPC.1
  have hTI : rt_TI nb M := hPC.2.1
  have hBN : rt_BN nb M := hrel.2.2.2.2.2.2.2.2.2.2.2.2.2.2.2.2.2.2.2.2.2.2.2.2.1
  refine lv_aload_n hx hb dL_law_1471 rfl (lv_at hl 2 rfl) ?_
  refine lv_aload_n hx hb dL_law_1472 rfl (lv_at hl 3 rfl) ?_
  refine lv_iload_n hx hb dL_law_1473 rfl (lv_at hl 0 rfl) ?_
  refine lv_iconst (v := 1) hx hb dL_law_1474 (by decide) ?_
  refine fx_iadd hx hb dL_law_1475 rfl zk_1 (by omega) (fun y1 ey1 ty1 => ?_)
  refine va_sld hx hb hX hbl hbA hS (fm_in (by omega)) dL_law_1476 ?_
  refine lv_topi (fun x2 ex2 => ?_)
  refine fx_i2l hx hb dL_law_1477 rfl (fun y3 ey3 ty3 => ?_)
  refine lv_bipush (v := 32) hx hb dL_law_1478 (by decide) ?_
  refine lv_lshl (v := y3 <<< ((32 : Int32).toInt64 &&& 63)) hx hb dL_law_1480 rfl ?_
  refine lv_topl (fun y4 ey4 => ?_)
  refine lv_aload_n hx hb dL_law_1481 rfl (lv_at hl 3 rfl) ?_
  refine lv_iload_n hx hb dL_law_1482 rfl (lv_at hl 0 rfl) ?_
  refine lv_iconst (v := 2) hx hb dL_law_1483 (by decide) ?_
  refine fx_iadd hx hb dL_law_1484 rfl zk_2 (by omega) (fun y5 ey5 ty5 => ?_)
  refine va_sld hx hb hX hbl hbA hS (fm_in (by omega)) dL_law_1485 ?_
  refine lv_topi (fun x6 ex6 => ?_)
  refine fx_i2l hx hb dL_law_1486 rfl (fun y7 ey7 ty7 => ?_)
  refine lv_ldc2 (v := 4294967295) hx hb hown (hts (.constantLong RL 42 (4294967295)) (rt_pc_in 7 _ (List.mem_of_getElem? (i := 231) (by decide +kernel)))) dL_law_1487 ?_
  refine lv_land hx hb dL_law_1490 ?_
  refine lv_topl (fun y8 ey8 => ?_)
  refine lv_lor hx hb dL_law_1491 ?_
  refine lv_topl (fun y9 ey9 => ?_)
  refine fm_ci (va_runV (As := [.long y9]) (rest := []) ⟨hx, hb, hml, hown, hts⟩ (fc_X11_row l D ad C nb M hI y9) (cwV 1 hts gL_law_X11_row rfl rfl rfl (by decide +kernel) ⟨Nat.le_of_ble_eq_true rfl, Nat.le_of_ble_eq_true rfl⟩) (fm_preV hc hw hS kl_0 sh_0 rfl) rfl rfl hl.1 rfl (lv_room (Nat.le_of_ble_eq_true rfl)) dL_law_1492 ⟨hk1, hs1⟩) hS hc (fun r10 M11 H locs hr10 hw hS => ?_)
  obtain ⟨hI, hEM11, hr10⟩ := hr10
  refine lv_pop hx hb dL_law_1495 rfl ?_
  refine lv_aload_n hx hb dL_law_1496 rfl (lv_at hl 1 rfl) ?_
  refine lv_aload_n hx hb dL_law_1497 rfl (lv_at hl 3 rfl) ?_
  refine lv_iload_n hx hb dL_law_1498 rfl (lv_at hl 0 rfl) ?_
  refine lv_iconst (v := 1) hx hb dL_law_1499 (by decide) ?_
  refine fx_iadd hx hb dL_law_1500 rfl zk_1 (by omega) (fun y12 ey12 ty12 => ?_)
  refine va_sld hx hb hX hbl hbA hS (fm_in (by omega)) dL_law_1501 ?_
  refine lv_topi (fun x13 ex13 => ?_)
  have qx13 : x2 = x13 := by rw [ex13, ex2, ey12, ey1]
  clear ex13
  subst qx13
  refine fx_i2l hx hb dL_law_1502 rfl (fun y14 ey14 ty14 => ?_)
  refine lv_bipush (v := 32) hx hb dL_law_1503 (by decide) ?_
  refine lv_lshl (v := y14 <<< ((32 : Int32).toInt64 &&& 63)) hx hb dL_law_1505 rfl ?_
  refine lv_topl (fun y15 ey15 => ?_)
  refine lv_aload_n hx hb dL_law_1506 rfl (lv_at hl 3 rfl) ?_
  refine lv_iload_n hx hb dL_law_1507 rfl (lv_at hl 0 rfl) ?_
  refine lv_iconst (v := 2) hx hb dL_law_1508 (by decide) ?_
  refine fx_iadd hx hb dL_law_1509 rfl zk_2 (by omega) (fun y16 ey16 ty16 => ?_)
  refine va_sld hx hb hX hbl hbA hS (fm_in (by omega)) dL_law_1510 ?_
  refine lv_topi (fun x17 ex17 => ?_)
  have qx17 : x6 = x17 := by rw [ex17, ex6, ey16, ey5]
  clear ex17
  subst qx17
  refine fx_i2l hx hb dL_law_1511 rfl (fun y18 ey18 ty18 => ?_)
  refine lv_ldc2 (v := 4294967295) hx hb hown (hts (.constantLong RL 42 (4294967295)) (rt_pc_in 7 _ (List.mem_of_getElem? (i := 231) (by decide +kernel)))) dL_law_1512 ?_
  refine lv_land hx hb dL_law_1515 ?_
  refine lv_topl (fun y19 ey19 => ?_)
  refine lv_lor hx hb dL_law_1516 ?_
  refine lv_topl (fun y20 ey20 => ?_)
  have qy20 : y9 = y20 := by rw [ey9, ey4, ey3, ey8, ey7, ey20, ey15, ey14, ey19, ey18]
  clear ey20
  subst qy20
  refine fm_ci (va_runV (As := [.long y9]) (rest := []) ⟨hx, hb, hml, hown, hts⟩ (fc_X12_row l D ad C nb M11 hI y9) (cwV 1 hts gL_law_X12_row rfl rfl rfl (by decide +kernel) ⟨Nat.le_of_ble_eq_true rfl, Nat.le_of_ble_eq_true rfl⟩) (fm_preV hc hw hS kl_60 sh_60 rfl) rfl rfl hl.1 rfl (lv_room (Nat.le_of_ble_eq_true rfl)) dL_law_1517 ⟨hk1, hs1⟩) hS hc (fun r21 M22 H locs hr21 hw hS => ?_)
  obtain ⟨hI, hEM22, hr21⟩ := hr21
  refine lv_pop hx hb dL_law_1520 rfl ?_
  refine lv_goto (tgt := 1835) hx hb dL_law_1521 (by decide) ?_
  have hr90 : M22.1 0 0 10 = M22.1 60 0 16 := by rw [(hEM22 0 0 10 (by decide)).1, (hEM11 0 0 10 (by decide)).1, (hEM22 60 0 16 (by decide)).1, (hEM11 60 0 16 (by decide)).1]; exact hrel.1
  have hr91 : M22.1 0 0 9 = M22.1 60 0 0 := by rw [(hEM22 0 0 9 (by decide)).1, (hEM11 0 0 9 (by decide)).1, (hEM22 60 0 0 (by decide)).1, (hEM11 60 0 0 (by decide)).1]; exact hrel.2.1
  have hr92 : M22.1 0 0 11 = M22.1 60 0 21 := by rw [(hEM22 0 0 11 (by decide)).1, (hEM11 0 0 11 (by decide)).1, (hEM22 60 0 21 (by decide)).1, (hEM11 60 0 21 (by decide)).1]; exact hrel.2.2.1
  have hr93 : (∀ j : Nat, j < nb → M22.1 50 j 2 = M22.1 111 0 j) := fun j hj => by rw [(hEM22 50 j 2 (by decide)).1, (hEM11 50 j 2 (by decide)).1, (hEM22 111 0 j (by rw [cd_111]; decide)).1, (hEM11 111 0 j (by rw [cd_111]; decide)).1]; exact hrel.2.2.2.1 j hj
  have hr94 : (∀ j : Nat, j < 4 → M22.1 46 j 1 = M22.1 175 0 j) := fun j hj => by rw [(hEM22 46 j 1 (by decide)).1, (hEM11 46 j 1 (by decide)).1, (hEM22 175 0 j (by rw [cd_175]; decide)).1, (hEM11 175 0 j (by rw [cd_175]; decide)).1]; exact hrel.2.2.2.2.1 j hj
  have hr95 : (∀ j : Nat, j < 4 → M22.1 46 j 2 = M22.1 176 0 j) := fun j hj => by rw [(hEM22 46 j 2 (by decide)).1, (hEM11 46 j 2 (by decide)).1, (hEM22 176 0 j (by rw [cd_176]; decide)).1, (hEM11 176 0 j (by rw [cd_176]; decide)).1]; exact hrel.2.2.2.2.2.1 j hj
  have hr96 : (∀ j : Nat, j < nb → M22.1 50 j 0 = M22.1 110 0 j) := fun j hj => by rw [(hEM22 50 j 0 (by decide)).1, (hEM11 50 j 0 (by decide)).1, (hEM22 110 0 j (by rw [cd_110]; decide)).1, (hEM11 110 0 j (by rw [cd_110]; decide)).1]; exact hrel.2.2.2.2.2.2.1 j hj
  have hr97 : (∀ j : Nat, j < nb → M22.1 50 j 1 = M22.1 112 0 j) := fun j hj => by rw [(hEM22 50 j 1 (by decide)).1, (hEM11 50 j 1 (by decide)).1, (hEM22 112 0 j (by rw [cd_112]; decide)).1, (hEM11 112 0 j (by rw [cd_112]; decide)).1]; exact hrel.2.2.2.2.2.2.2.1 j hj
  have hr98 : M22.1 1 0 2 = M22.1 60 0 5 := by rw [(hEM22 1 0 2 (by decide)).1, (hEM11 1 0 2 (by decide)).1, (hEM22 60 0 5 (by decide)).1, (hEM11 60 0 5 (by decide)).1]; exact hrel.2.2.2.2.2.2.2.2.1
  have hr99 : M22.1 27 0 1 = M22.1 60 0 52 := by rw [(hEM22 27 0 1 (by decide)).1, (hEM11 27 0 1 (by decide)).1, (hEM22 60 0 52 (by decide)).1, (hEM11 60 0 52 (by decide)).1]; exact hrel.2.2.2.2.2.2.2.2.2.1
  have hr910 : M22.1 27 0 3 = M22.1 60 0 55 := by rw [(hEM22 27 0 3 (by decide)).1, (hEM11 27 0 3 (by decide)).1, (hEM22 60 0 55 (by decide)).1, (hEM11 60 0 55 (by decide)).1]; exact hrel.2.2.2.2.2.2.2.2.2.2.1
  have hr911 : (∀ j : Nat, M22.1 28 0 j = M22.1 151 0 j) := fun j => by rw [(hEM22 28 0 j (by rw [cd_28]; decide)).1, (hEM11 28 0 j (by rw [cd_28]; decide)).1, (hEM22 151 0 j (by rw [cd_151]; decide)).1, (hEM11 151 0 j (by rw [cd_151]; decide)).1]; exact hrel.2.2.2.2.2.2.2.2.2.2.2.1 j
  have hr912 : M22.1 27 0 4 = M22.1 60 0 56 := by rw [(hEM22 27 0 4 (by decide)).1, (hEM11 27 0 4 (by decide)).1, (hEM22 60 0 56 (by decide)).1, (hEM11 60 0 56 (by decide)).1]; exact hrel.2.2.2.2.2.2.2.2.2.2.2.2.1
  have hr913 : M22.1 21 0 5 = M22.1 60 0 44 := by rw [(hEM22 21 0 5 (by decide)).1, (hEM11 21 0 5 (by decide)).1, (hEM22 60 0 44 (by decide)).1, (hEM11 60 0 44 (by decide)).1]; exact hrel.2.2.2.2.2.2.2.2.2.2.2.2.2.1
  have hr914 : (∀ j : Nat, M22.1 22 0 j = M22.1 140 0 j) := fun j => by rw [(hEM22 22 0 j (by rw [cd_22]; decide)).1, (hEM11 22 0 j (by rw [cd_22]; decide)).1, (hEM22 140 0 j (by rw [cd_140]; decide)).1, (hEM11 140 0 j (by rw [cd_140]; decide)).1]; exact hrel.2.2.2.2.2.2.2.2.2.2.2.2.2.2.1 j
  have hr915 : (∀ j : Nat, M22.1 23 0 j = M22.1 141 0 j) := fun j => by rw [(hEM22 23 0 j (by rw [cd_23]; decide)).1, (hEM11 23 0 j (by rw [cd_23]; decide)).1, (hEM22 141 0 j (by rw [cd_141]; decide)).1, (hEM11 141 0 j (by rw [cd_141]; decide)).1]; exact hrel.2.2.2.2.2.2.2.2.2.2.2.2.2.2.2.1 j
  have hr916 : (∀ j : Nat, M22.1 24 0 j = M22.1 142 0 j) := fun j => by rw [(hEM22 24 0 j (by rw [cd_24]; decide)).1, (hEM11 24 0 j (by rw [cd_24]; decide)).1, (hEM22 142 0 j (by rw [cd_142]; decide)).1, (hEM11 142 0 j (by rw [cd_142]; decide)).1]; exact hrel.2.2.2.2.2.2.2.2.2.2.2.2.2.2.2.2.1 j
  have hr917 : (∀ j : Nat, M22.1 25 0 j = M22.1 143 0 j) := fun j => by rw [(hEM22 25 0 j (by rw [cd_25]; decide)).1, (hEM11 25 0 j (by rw [cd_25]; decide)).1, (hEM22 143 0 j (by rw [cd_143]; decide)).1, (hEM11 143 0 j (by rw [cd_143]; decide)).1]; exact hrel.2.2.2.2.2.2.2.2.2.2.2.2.2.2.2.2.2.1 j
  have hr918 : (∀ j : Nat, j < nb → M22.1 50 j 4 = M22.1 115 0 j) := fun j hj => by rw [(hEM22 50 j 4 (by decide)).1, (hEM11 50 j 4 (by decide)).1, (hEM22 115 0 j (by rw [cd_115]; decide)).1, (hEM11 115 0 j (by rw [cd_115]; decide)).1]; exact hrel.2.2.2.2.2.2.2.2.2.2.2.2.2.2.2.2.2.2.1 j hj
  have hs90 : (∀ s i : Nat, s < 4 → i < 40 → M22.1 47 s i = M22.1 177 0 (40 * s + i)) := fun s i hs hi => by rw [(hEM22 47 s i (by rw [cd_47]; decide)).1, (hEM11 47 s i (by rw [cd_47]; decide)).1, (hEM22 177 0 (40 * s + i) (by rw [cd_177]; decide)).1, (hEM11 177 0 (40 * s + i) (by rw [cd_177]; decide)).1]; exact hrel.2.2.2.2.2.2.2.2.2.2.2.2.2.2.2.2.2.2.2.1 s i hs hi
  have hs91_1 : rt_WN M11 := rt_WN_same hEM11 (by decide) hrel.2.2.2.2.2.2.2.2.2.2.2.2.2.2.2.2.2.2.2.2.1
  have hs91 : rt_WN M22 := rt_WN_same hEM22 (by decide) hs91_1
  have hs92_1 : rt_PC nb M11 := rt_PC_same hEM11 (by decide) hrel.2.2.2.2.2.2.2.2.2.2.2.2.2.2.2.2.2.2.2.2.2.1
  have hs92 : rt_PC nb M22 := rt_PC_same hEM22 (by decide) hs92_1
  have hs93_1 : rt_FB M11 := rt_FB_same hEM11 (by decide) hrel.2.2.2.2.2.2.2.2.2.2.2.2.2.2.2.2.2.2.2.2.2.2.1
  have hs93 : rt_FB M22 := rt_FB_same hEM22 (by decide) hs93_1
  have hs94 : (∀ j : Nat, j < nb → rt_nkM M22 j = rt_nmM M22 j) := by rw [rt_nkM_same hEM22 (by decide), rt_nkM_same hEM11 (by decide), rt_nmM_same hEM22 (by decide), rt_nmM_same hEM11 (by decide)]; exact hrel.2.2.2.2.2.2.2.2.2.2.2.2.2.2.2.2.2.2.2.2.2.2.2.1
  have hs95_1 : rt_BN nb M11 := rt_BN_eq (Int.le_of_eq (congrArg Int32.toInt (hEM11 0 0 9 (by decide)).1.symm)) (fun j => (hEM11 50 j 2 (by decide)).1) hrel.2.2.2.2.2.2.2.2.2.2.2.2.2.2.2.2.2.2.2.2.2.2.2.2.1
  have hs95 : rt_BN nb M22 := rt_BN_eq (Int.le_of_eq (congrArg Int32.toInt (hEM22 0 0 9 (by decide)).1.symm)) (fun j => (hEM22 50 j 2 (by decide)).1) hs95_1
  have hs96_1 : (∀ k : Nat, (k : Int) < (M11.1 27 0 3).toInt → rt_TR M11 k) := fun k hk => rt_TR_same hEM11 (by decide) (hrel.2.2.2.2.2.2.2.2.2.2.2.2.2.2.2.2.2.2.2.2.2.2.2.2.2.1 k (by rw [← (hEM11 27 0 3 (by decide)).1]; exact hk))
  have hs96 : (∀ k : Nat, (k : Int) < (M22.1 27 0 3).toInt → rt_TR M22 k) := fun k hk => rt_TR_same hEM22 (by decide) (hs96_1 k (by rw [← (hEM22 27 0 3 (by decide)).1]; exact hk))
  have hs97 : (M22.1 27 0 4).toInt < (M22.1 27 0 3).toInt := by rw [(hEM22 27 0 4 (by decide)).1, (hEM11 27 0 4 (by decide)).1, (hEM22 27 0 3 (by decide)).1, (hEM11 27 0 3 (by decide)).1]; exact hrel.2.2.2.2.2.2.2.2.2.2.2.2.2.2.2.2.2.2.2.2.2.2.2.2.2.2.1
  have hs98_1 : (∀ k : Nat, (k : Int) < (M11.1 21 0 5).toInt → (M11.1 22 0 k).toInt < nb) := fun k hk => by rw [(hEM11 22 0 k (by rw [cd_22]; decide)).1]; exact hrel.2.2.2.2.2.2.2.2.2.2.2.2.2.2.2.2.2.2.2.2.2.2.2.2.2.2.2 k (by rw [← (hEM11 21 0 5 (by decide)).1]; exact hk)
  have hs98 : (∀ k : Nat, (k : Int) < (M22.1 21 0 5).toInt → (M22.1 22 0 k).toInt < nb) := fun k hk => by rw [(hEM22 22 0 k (by rw [cd_22]; decide)).1]; exact hs98_1 k (by rw [← (hEM22 21 0 5 (by decide)).1]; exact hk)
  have hrel9 : M22.1 0 0 10 = M22.1 60 0 16 ∧ M22.1 0 0 9 = M22.1 60 0 0 ∧ M22.1 0 0 11 = M22.1 60 0 21 ∧ (∀ j : Nat, j < nb → M22.1 50 j 2 = M22.1 111 0 j) ∧ (∀ j : Nat, j < 4 → M22.1 46 j 1 = M22.1 175 0 j) ∧ (∀ j : Nat, j < 4 → M22.1 46 j 2 = M22.1 176 0 j) ∧ (∀ j : Nat, j < nb → M22.1 50 j 0 = M22.1 110 0 j) ∧ (∀ j : Nat, j < nb → M22.1 50 j 1 = M22.1 112 0 j) ∧ M22.1 1 0 2 = M22.1 60 0 5 ∧ M22.1 27 0 1 = M22.1 60 0 52 ∧ M22.1 27 0 3 = M22.1 60 0 55 ∧ (∀ j : Nat, M22.1 28 0 j = M22.1 151 0 j) ∧ M22.1 27 0 4 = M22.1 60 0 56 ∧ M22.1 21 0 5 = M22.1 60 0 44 ∧ (∀ j : Nat, M22.1 22 0 j = M22.1 140 0 j) ∧ (∀ j : Nat, M22.1 23 0 j = M22.1 141 0 j) ∧ (∀ j : Nat, M22.1 24 0 j = M22.1 142 0 j) ∧ (∀ j : Nat, M22.1 25 0 j = M22.1 143 0 j) ∧ (∀ j : Nat, j < nb → M22.1 50 j 4 = M22.1 115 0 j) ∧ (∀ s i : Nat, s < 4 → i < 40 → M22.1 47 s i = M22.1 177 0 (40 * s + i)) ∧ rt_WN M22 ∧ rt_PC nb M22 ∧ rt_FB M22 ∧ (∀ j : Nat, j < nb → rt_nkM M22 j = rt_nmM M22 j) ∧ rt_BN nb M22 ∧ (∀ k : Nat, (k : Int) < (M22.1 27 0 3).toInt → rt_TR M22 k) ∧ (M22.1 27 0 4).toInt < (M22.1 27 0 3).toInt ∧ (∀ k : Nat, (k : Int) < (M22.1 21 0 5).toInt → (M22.1 22 0 k).toInt < nb) := ⟨hr90, hr91, hr92, hr93, hr94, hr95, hr96, hr97, hr98, hr99, hr910, hr911, hr912, hr913, hr914, hr915, hr916, hr917, hr918, hs90, hs91, hs92, hs93, hs94, hs95, hs96, hs97, hs98⟩
  exact kk M22 _ _ hw hI hS hrel9 ls (lv_sub hl [0, 1, 2, 3] rfl)
set_option maxHeartbeats 1000000 in
set_option maxRecDepth 20000 in
theorem lb_31 {p : Program} {l : Launch} {e : Env} {s : State} {m : MethodId} {below : List Frame} {meth : Method} {c : Code} {D : va_G} {ad : Nat → Nat → Nat} {C : Nat → Nat → ClassId} {nb : Nat} {M : fm_M} {b L : Nat} {xs : Nat → Int32} {H : Heap} {locs : List Loc} {kc sl : Nat} {i : Int32} (C0 : lw_At p s m meth c b L xs) (hkc : kc ≤ 10000) (hsl : sl ≤ 300000) (hc : fm_Cx D ad C nb (fun q : Nat => s.heap.size ≤ q) s) (hw : fm_at D ad C nb M H) (hI : fm_I nb ad M) (hS : va_S (fun q : Nat => s.heap.size ≤ q) s.heap H locs) (hi : 0 ≤ i.toInt ∧ i.toInt + 6 ≤ L) (hL : L ≤ 3072) (hrel : M.1 0 0 10 = M.1 60 0 16 ∧ M.1 0 0 9 = M.1 60 0 0 ∧ M.1 0 0 11 = M.1 60 0 21 ∧ (∀ j : Nat, j < nb → M.1 50 j 2 = M.1 111 0 j) ∧ (∀ j : Nat, j < 4 → M.1 46 j 1 = M.1 175 0 j) ∧ (∀ j : Nat, j < 4 → M.1 46 j 2 = M.1 176 0 j) ∧ (∀ j : Nat, j < nb → M.1 50 j 0 = M.1 110 0 j) ∧ (∀ j : Nat, j < nb → M.1 50 j 1 = M.1 112 0 j) ∧ M.1 1 0 2 = M.1 60 0 5 ∧ M.1 27 0 1 = M.1 60 0 52 ∧ M.1 27 0 3 = M.1 60 0 55 ∧ (∀ j : Nat, M.1 28 0 j = M.1 151 0 j) ∧ M.1 27 0 4 = M.1 60 0 56 ∧ M.1 21 0 5 = M.1 60 0 44 ∧ (∀ j : Nat, M.1 22 0 j = M.1 140 0 j) ∧ (∀ j : Nat, M.1 23 0 j = M.1 141 0 j) ∧ (∀ j : Nat, M.1 24 0 j = M.1 142 0 j) ∧ (∀ j : Nat, M.1 25 0 j = M.1 143 0 j) ∧ (∀ j : Nat, j < nb → M.1 50 j 4 = M.1 115 0 j) ∧ (∀ s i : Nat, s < 4 → i < 40 → M.1 47 s i = M.1 177 0 (40 * s + i)) ∧ rt_WN M ∧ rt_PC nb M ∧ rt_FB M ∧ (∀ j : Nat, j < nb → rt_nkM M j = rt_nmM M j) ∧ rt_BN nb M ∧ (∀ k : Nat, (k : Int) < (M.1 27 0 3).toInt → rt_TR M k) ∧ (M.1 27 0 4).toInt < (M.1 27 0 3).toInt ∧ (∀ k : Nat, (k : Int) < (M.1 21 0 5).toInt → (M.1 22 0 k).toInt < nb)) (kk : ∀ (M1 : fm_M) (H1 : Heap) (locs1 : List Loc), fm_at D ad C nb M1 H1 → fm_I nb ad M1 → va_S (fun q : Nat => s.heap.size ≤ q) s.heap H1 locs1 → M1.1 0 0 10 = M1.1 60 0 16 ∧ M1.1 0 0 9 = M1.1 60 0 0 ∧ M1.1 0 0 11 = M1.1 60 0 21 ∧ (∀ j : Nat, j < nb → M1.1 50 j 2 = M1.1 111 0 j) ∧ (∀ j : Nat, j < 4 → M1.1 46 j 1 = M1.1 175 0 j) ∧ (∀ j : Nat, j < 4 → M1.1 46 j 2 = M1.1 176 0 j) ∧ (∀ j : Nat, j < nb → M1.1 50 j 0 = M1.1 110 0 j) ∧ (∀ j : Nat, j < nb → M1.1 50 j 1 = M1.1 112 0 j) ∧ M1.1 1 0 2 = M1.1 60 0 5 ∧ M1.1 27 0 1 = M1.1 60 0 52 ∧ M1.1 27 0 3 = M1.1 60 0 55 ∧ (∀ j : Nat, M1.1 28 0 j = M1.1 151 0 j) ∧ M1.1 27 0 4 = M1.1 60 0 56 ∧ M1.1 21 0 5 = M1.1 60 0 44 ∧ (∀ j : Nat, M1.1 22 0 j = M1.1 140 0 j) ∧ (∀ j : Nat, M1.1 23 0 j = M1.1 141 0 j) ∧ (∀ j : Nat, M1.1 24 0 j = M1.1 142 0 j) ∧ (∀ j : Nat, M1.1 25 0 j = M1.1 143 0 j) ∧ (∀ j : Nat, j < nb → M1.1 50 j 4 = M1.1 115 0 j) ∧ (∀ s i : Nat, s < 4 → i < 40 → M1.1 47 s i = M1.1 177 0 (40 * s + i)) ∧ rt_WN M1 ∧ rt_PC nb M1 ∧ rt_FB M1 ∧ (∀ j : Nat, j < nb → rt_nkM M1 j = rt_nmM M1 j) ∧ rt_BN nb M1 ∧ (∀ k : Nat, (k : Int) < (M1.1 27 0 3).toInt → rt_TR M1 k) ∧ (M1.1 27 0 4).toInt < (M1.1 27 0 3).toInt ∧ (∀ k : Nat, (k : Int) < (M1.1 21 0 5).toInt → (M1.1 22 0 k).toInt < nb) → ∀ ls : Array Slot, lv_has ls 4 [(3, .int i), (2, .ref (ad 60 0)), (1, .ref (ad 0 0)), (0, .ref b)] → W p l e room_1 s m #[Value.ref b] below meth c H1 locs1 kc sl (lw_Z below #[Value.ref b] s) (F0 m 1835 ls [])) (ls : Array Slot) (hl : lv_has ls 4 [(3, .int i), (2, .ref (ad 60 0)), (1, .ref (ad 0 0)), (0, .ref b)]) : W p l e room_1 s m #[Value.ref b] below meth c H locs kc sl (lw_Z below #[Value.ref b] s) (F0 m 1524 ls []) := by
  obtain ⟨hx, hb, hr, hml, hown, hts, hX, hbl, hlocks, hgv⟩ := id C0
  have hown : s.vm.findClass RL = some m.cls := hown
  have hb : c.code = cL_law := hb
  have hbA : ¬ (fun q : Nat => s.heap.size ≤ q) b := Nat.not_le.mpr hbl
  have hk1 : kc + 0 ≤ room_1.cells := by show kc + 0 ≤ 600000; omega
  have hs1 : sl + 0 ≤ room_1.slots := by show sl + 0 ≤ 7302250; omega
  have hI0 := hI
  have hPC : rt_PC nb M := hrel.2.2.2.2.2.2.2.2.2.2.2.2.2.2.2.2.2.2.2.2.2.1
  have hCI : rt_CI nb M := hPC.1
  have hTI : rt_TI nb M := hPC.2.1
  have hBN : rt_BN nb M := hrel.2.2.2.2.2.2.2.2.2.2.2.2.2.2.2.2.2.2.2.2.2.2.2.2.1
  refine lv_aload_n hx hb dL_law_1524 rfl (lv_at hl 2 rfl) ?_
  refine lv_aload_n hx hb dL_law_1525 rfl (lv_at hl 3 rfl) ?_
  refine lv_iload_n hx hb dL_law_1526 rfl (lv_at hl 0 rfl) ?_
  refine lv_iconst (v := 1) hx hb dL_law_1527 (by decide) ?_
  refine fx_iadd hx hb dL_law_1528 rfl zk_1 (by omega) (fun y1 ey1 ty1 => ?_)
  refine va_sld hx hb hX hbl hbA hS (fm_in (by omega)) dL_law_1529 ?_
  refine lv_topi (fun x2 ex2 => ?_)
  refine lv_aload_n hx hb dL_law_1530 rfl (lv_at hl 3 rfl) ?_
  refine lv_iload_n hx hb dL_law_1531 rfl (lv_at hl 0 rfl) ?_
  refine lv_iconst (v := 2) hx hb dL_law_1532 (by decide) ?_
  refine fx_iadd hx hb dL_law_1533 rfl zk_2 (by omega) (fun y3 ey3 ty3 => ?_)
  refine va_sld hx hb hX hbl hbA hS (fm_in (by omega)) dL_law_1534 ?_
  refine lv_topi (fun x4 ex4 => ?_)
  refine lv_aload_n hx hb dL_law_1535 rfl (lv_at hl 3 rfl) ?_
  refine lv_iload_n hx hb dL_law_1536 rfl (lv_at hl 0 rfl) ?_
  refine lv_iconst (v := 3) hx hb dL_law_1537 (by decide) ?_
  refine fx_iadd hx hb dL_law_1538 rfl zk_3 (by omega) (fun y5 ey5 ty5 => ?_)
  refine va_sld hx hb hX hbl hbA hS (fm_in (by omega)) dL_law_1539 ?_
  refine lv_topi (fun x6 ex6 => ?_)
  refine fm_ci (va_runV (As := [.int x2, .int x4, .int x6]) (rest := []) ⟨hx, hb, hml, hown, hts⟩ (fc_X11_days l D ad C nb M hI x2 x4 x6) (cwV 3 hts gL_law_X11_days rfl rfl rfl (by decide +kernel) ⟨Nat.le_of_ble_eq_true rfl, Nat.le_of_ble_eq_true rfl⟩) (fm_preV hc hw hS kl_0 sh_0 rfl) rfl rfl hl.1 rfl (lv_room (Nat.le_of_ble_eq_true rfl)) dL_law_1540 ⟨hk1, hs1⟩) hS hc (fun r7 M8 H locs hr7 hw hS => ?_)
  obtain ⟨hI, hEM8, hr7⟩ := hr7
  refine lv_pop hx hb dL_law_1543 rfl ?_
  refine lv_aload_n hx hb dL_law_1544 rfl (lv_at hl 1 rfl) ?_
  refine lv_aload_n hx hb dL_law_1545 rfl (lv_at hl 3 rfl) ?_
  refine lv_iload_n hx hb dL_law_1546 rfl (lv_at hl 0 rfl) ?_
  refine lv_iconst (v := 1) hx hb dL_law_1547 (by decide) ?_
  refine fx_iadd hx hb dL_law_1548 rfl zk_1 (by omega) (fun y9 ey9 ty9 => ?_)
  refine va_sld hx hb hX hbl hbA hS (fm_in (by omega)) dL_law_1549 ?_
  refine lv_topi (fun x10 ex10 => ?_)
  have qx10 : x2 = x10 := by rw [ex10, ex2, ey9, ey1]
  clear ex10
  subst qx10
  refine lv_aload_n hx hb dL_law_1550 rfl (lv_at hl 3 rfl) ?_
  refine lv_iload_n hx hb dL_law_1551 rfl (lv_at hl 0 rfl) ?_
  refine lv_iconst (v := 2) hx hb dL_law_1552 (by decide) ?_
  refine fx_iadd hx hb dL_law_1553 rfl zk_2 (by omega) (fun y11 ey11 ty11 => ?_)
  refine va_sld hx hb hX hbl hbA hS (fm_in (by omega)) dL_law_1554 ?_
  refine lv_topi (fun x12 ex12 => ?_)
  have qx12 : x4 = x12 := by rw [ex12, ex4, ey11, ey3]
  clear ex12
  subst qx12
  refine lv_aload_n hx hb dL_law_1555 rfl (lv_at hl 3 rfl) ?_
  refine lv_iload_n hx hb dL_law_1556 rfl (lv_at hl 0 rfl) ?_
  refine lv_iconst (v := 3) hx hb dL_law_1557 (by decide) ?_
  refine fx_iadd hx hb dL_law_1558 rfl zk_3 (by omega) (fun y13 ey13 ty13 => ?_)
  refine va_sld hx hb hX hbl hbA hS (fm_in (by omega)) dL_law_1559 ?_
  refine lv_topi (fun x14 ex14 => ?_)
  have qx14 : x6 = x14 := by rw [ex14, ex6, ey13, ey5]
  clear ex14
  subst qx14
  refine fm_ci (va_runV (As := [.int x2, .int x4, .int x6]) (rest := []) ⟨hx, hb, hml, hown, hts⟩ (fc_X12_days l D ad C nb M8 hI x2 x4 x6) (cwV 3 hts gL_law_X12_days rfl rfl rfl (by decide +kernel) ⟨Nat.le_of_ble_eq_true rfl, Nat.le_of_ble_eq_true rfl⟩) (fm_preV hc hw hS kl_60 sh_60 rfl) rfl rfl hl.1 rfl (lv_room (Nat.le_of_ble_eq_true rfl)) dL_law_1560 ⟨hk1, hs1⟩) hS hc (fun r15 M16 H locs hr15 hw hS => ?_)
  obtain ⟨hI, hEM16, hr15⟩ := hr15
  refine lv_pop hx hb dL_law_1563 rfl ?_
  refine lv_goto (tgt := 1835) hx hb dL_law_1564 (by decide) ?_
  have hr90 : M16.1 0 0 10 = M16.1 60 0 16 := by rw [(hEM16 0 0 10 (by decide)).1, (hEM8 0 0 10 (by decide)).1, (hEM16 60 0 16 (by decide)).1, (hEM8 60 0 16 (by decide)).1]; exact hrel.1
  have hr91 : M16.1 0 0 9 = M16.1 60 0 0 := by rw [(hEM16 0 0 9 (by decide)).1, (hEM8 0 0 9 (by decide)).1, (hEM16 60 0 0 (by decide)).1, (hEM8 60 0 0 (by decide)).1]; exact hrel.2.1
  have hr92 : M16.1 0 0 11 = M16.1 60 0 21 := by rw [(hEM16 0 0 11 (by decide)).1, (hEM8 0 0 11 (by decide)).1, (hEM16 60 0 21 (by decide)).1, (hEM8 60 0 21 (by decide)).1]; exact hrel.2.2.1
  have hr93 : (∀ j : Nat, j < nb → M16.1 50 j 2 = M16.1 111 0 j) := fun j hj => by rw [(hEM16 50 j 2 (by decide)).1, (hEM8 50 j 2 (by decide)).1, (hEM16 111 0 j (by rw [cd_111]; decide)).1, (hEM8 111 0 j (by rw [cd_111]; decide)).1]; exact hrel.2.2.2.1 j hj
  have hr94 : (∀ j : Nat, j < 4 → M16.1 46 j 1 = M16.1 175 0 j) := fun j hj => by rw [(hEM16 46 j 1 (by decide)).1, (hEM8 46 j 1 (by decide)).1, (hEM16 175 0 j (by rw [cd_175]; decide)).1, (hEM8 175 0 j (by rw [cd_175]; decide)).1]; exact hrel.2.2.2.2.1 j hj
  have hr95 : (∀ j : Nat, j < 4 → M16.1 46 j 2 = M16.1 176 0 j) := fun j hj => by rw [(hEM16 46 j 2 (by decide)).1, (hEM8 46 j 2 (by decide)).1, (hEM16 176 0 j (by rw [cd_176]; decide)).1, (hEM8 176 0 j (by rw [cd_176]; decide)).1]; exact hrel.2.2.2.2.2.1 j hj
  have hr96 : (∀ j : Nat, j < nb → M16.1 50 j 0 = M16.1 110 0 j) := fun j hj => by rw [(hEM16 50 j 0 (by decide)).1, (hEM8 50 j 0 (by decide)).1, (hEM16 110 0 j (by rw [cd_110]; decide)).1, (hEM8 110 0 j (by rw [cd_110]; decide)).1]; exact hrel.2.2.2.2.2.2.1 j hj
  have hr97 : (∀ j : Nat, j < nb → M16.1 50 j 1 = M16.1 112 0 j) := fun j hj => by rw [(hEM16 50 j 1 (by decide)).1, (hEM8 50 j 1 (by decide)).1, (hEM16 112 0 j (by rw [cd_112]; decide)).1, (hEM8 112 0 j (by rw [cd_112]; decide)).1]; exact hrel.2.2.2.2.2.2.2.1 j hj
  have hr98 : M16.1 1 0 2 = M16.1 60 0 5 := by rw [(hEM16 1 0 2 (by decide)).1, (hEM8 1 0 2 (by decide)).1, (hEM16 60 0 5 (by decide)).1, (hEM8 60 0 5 (by decide)).1]; exact hrel.2.2.2.2.2.2.2.2.1
  have hr99 : M16.1 27 0 1 = M16.1 60 0 52 := by rw [(hEM16 27 0 1 (by decide)).1, (hEM8 27 0 1 (by decide)).1, (hEM16 60 0 52 (by decide)).1, (hEM8 60 0 52 (by decide)).1]; exact hrel.2.2.2.2.2.2.2.2.2.1
  have hr910 : M16.1 27 0 3 = M16.1 60 0 55 := by rw [(hEM16 27 0 3 (by decide)).1, (hEM8 27 0 3 (by decide)).1, (hEM16 60 0 55 (by decide)).1, (hEM8 60 0 55 (by decide)).1]; exact hrel.2.2.2.2.2.2.2.2.2.2.1
  have hr911 : (∀ j : Nat, M16.1 28 0 j = M16.1 151 0 j) := fun j => by rw [(hEM16 28 0 j (by rw [cd_28]; decide)).1, (hEM8 28 0 j (by rw [cd_28]; decide)).1, (hEM16 151 0 j (by rw [cd_151]; decide)).1, (hEM8 151 0 j (by rw [cd_151]; decide)).1]; exact hrel.2.2.2.2.2.2.2.2.2.2.2.1 j
  have hr912 : M16.1 27 0 4 = M16.1 60 0 56 := by rw [(hEM16 27 0 4 (by decide)).1, (hEM8 27 0 4 (by decide)).1, (hEM16 60 0 56 (by decide)).1, (hEM8 60 0 56 (by decide)).1]; exact hrel.2.2.2.2.2.2.2.2.2.2.2.2.1
  have hr913 : M16.1 21 0 5 = M16.1 60 0 44 := by rw [(hEM16 21 0 5 (by decide)).1, (hEM8 21 0 5 (by decide)).1, (hEM16 60 0 44 (by decide)).1, (hEM8 60 0 44 (by decide)).1]; exact hrel.2.2.2.2.2.2.2.2.2.2.2.2.2.1
  have hr914 : (∀ j : Nat, M16.1 22 0 j = M16.1 140 0 j) := fun j => by rw [(hEM16 22 0 j (by rw [cd_22]; decide)).1, (hEM8 22 0 j (by rw [cd_22]; decide)).1, (hEM16 140 0 j (by rw [cd_140]; decide)).1, (hEM8 140 0 j (by rw [cd_140]; decide)).1]; exact hrel.2.2.2.2.2.2.2.2.2.2.2.2.2.2.1 j
  have hr915 : (∀ j : Nat, M16.1 23 0 j = M16.1 141 0 j) := fun j => by rw [(hEM16 23 0 j (by rw [cd_23]; decide)).1, (hEM8 23 0 j (by rw [cd_23]; decide)).1, (hEM16 141 0 j (by rw [cd_141]; decide)).1, (hEM8 141 0 j (by rw [cd_141]; decide)).1]; exact hrel.2.2.2.2.2.2.2.2.2.2.2.2.2.2.2.1 j
  have hr916 : (∀ j : Nat, M16.1 24 0 j = M16.1 142 0 j) := fun j => by rw [(hEM16 24 0 j (by rw [cd_24]; decide)).1, (hEM8 24 0 j (by rw [cd_24]; decide)).1, (hEM16 142 0 j (by rw [cd_142]; decide)).1, (hEM8 142 0 j (by rw [cd_142]; decide)).1]; exact hrel.2.2.2.2.2.2.2.2.2.2.2.2.2.2.2.2.1 j
  have hr917 : (∀ j : Nat, M16.1 25 0 j = M16.1 143 0 j) := fun j => by rw [(hEM16 25 0 j (by rw [cd_25]; decide)).1, (hEM8 25 0 j (by rw [cd_25]; decide)).1, (hEM16 143 0 j (by rw [cd_143]; decide)).1, (hEM8 143 0 j (by rw [cd_143]; decide)).1]; exact hrel.2.2.2.2.2.2.2.2.2.2.2.2.2.2.2.2.2.1 j
  have hr918 : (∀ j : Nat, j < nb → M16.1 50 j 4 = M16.1 115 0 j) := fun j hj => by rw [(hEM16 50 j 4 (by decide)).1, (hEM8 50 j 4 (by decide)).1, (hEM16 115 0 j (by rw [cd_115]; decide)).1, (hEM8 115 0 j (by rw [cd_115]; decide)).1]; exact hrel.2.2.2.2.2.2.2.2.2.2.2.2.2.2.2.2.2.2.1 j hj
  have hs90 : (∀ s i : Nat, s < 4 → i < 40 → M16.1 47 s i = M16.1 177 0 (40 * s + i)) := fun s i hs hi => by rw [(hEM16 47 s i (by rw [cd_47]; decide)).1, (hEM8 47 s i (by rw [cd_47]; decide)).1, (hEM16 177 0 (40 * s + i) (by rw [cd_177]; decide)).1, (hEM8 177 0 (40 * s + i) (by rw [cd_177]; decide)).1]; exact hrel.2.2.2.2.2.2.2.2.2.2.2.2.2.2.2.2.2.2.2.1 s i hs hi
  have hs91_1 : rt_WN M8 := rt_WN_same hEM8 (by decide) hrel.2.2.2.2.2.2.2.2.2.2.2.2.2.2.2.2.2.2.2.2.1
  have hs91 : rt_WN M16 := rt_WN_same hEM16 (by decide) hs91_1
  have hs92_1 : rt_PC nb M8 := rt_PC_same hEM8 (by decide) hrel.2.2.2.2.2.2.2.2.2.2.2.2.2.2.2.2.2.2.2.2.2.1
  have hs92 : rt_PC nb M16 := rt_PC_same hEM16 (by decide) hs92_1
  have hs93_1 : rt_FB M8 := rt_FB_same hEM8 (by decide) hrel.2.2.2.2.2.2.2.2.2.2.2.2.2.2.2.2.2.2.2.2.2.2.1
  have hs93 : rt_FB M16 := rt_FB_same hEM16 (by decide) hs93_1
  have hs94 : (∀ j : Nat, j < nb → rt_nkM M16 j = rt_nmM M16 j) := by rw [rt_nkM_same hEM16 (by decide), rt_nkM_same hEM8 (by decide), rt_nmM_same hEM16 (by decide), rt_nmM_same hEM8 (by decide)]; exact hrel.2.2.2.2.2.2.2.2.2.2.2.2.2.2.2.2.2.2.2.2.2.2.2.1
  have hs95_1 : rt_BN nb M8 := rt_BN_eq (Int.le_of_eq (congrArg Int32.toInt (hEM8 0 0 9 (by decide)).1.symm)) (fun j => (hEM8 50 j 2 (by decide)).1) hrel.2.2.2.2.2.2.2.2.2.2.2.2.2.2.2.2.2.2.2.2.2.2.2.2.1
  have hs95 : rt_BN nb M16 := rt_BN_eq (Int.le_of_eq (congrArg Int32.toInt (hEM16 0 0 9 (by decide)).1.symm)) (fun j => (hEM16 50 j 2 (by decide)).1) hs95_1
  have hs96_1 : (∀ k : Nat, (k : Int) < (M8.1 27 0 3).toInt → rt_TR M8 k) := fun k hk => rt_TR_same hEM8 (by decide) (hrel.2.2.2.2.2.2.2.2.2.2.2.2.2.2.2.2.2.2.2.2.2.2.2.2.2.1 k (by rw [← (hEM8 27 0 3 (by decide)).1]; exact hk))
  have hs96 : (∀ k : Nat, (k : Int) < (M16.1 27 0 3).toInt → rt_TR M16 k) := fun k hk => rt_TR_same hEM16 (by decide) (hs96_1 k (by rw [← (hEM16 27 0 3 (by decide)).1]; exact hk))
  have hs97 : (M16.1 27 0 4).toInt < (M16.1 27 0 3).toInt := by rw [(hEM16 27 0 4 (by decide)).1, (hEM8 27 0 4 (by decide)).1, (hEM16 27 0 3 (by decide)).1, (hEM8 27 0 3 (by decide)).1]; exact hrel.2.2.2.2.2.2.2.2.2.2.2.2.2.2.2.2.2.2.2.2.2.2.2.2.2.2.1
  have hs98_1 : (∀ k : Nat, (k : Int) < (M8.1 21 0 5).toInt → (M8.1 22 0 k).toInt < nb) := fun k hk => by rw [(hEM8 22 0 k (by rw [cd_22]; decide)).1]; exact hrel.2.2.2.2.2.2.2.2.2.2.2.2.2.2.2.2.2.2.2.2.2.2.2.2.2.2.2 k (by rw [← (hEM8 21 0 5 (by decide)).1]; exact hk)
  have hs98 : (∀ k : Nat, (k : Int) < (M16.1 21 0 5).toInt → (M16.1 22 0 k).toInt < nb) := fun k hk => by rw [(hEM16 22 0 k (by rw [cd_22]; decide)).1]; exact hs98_1 k (by rw [← (hEM16 21 0 5 (by decide)).1]; exact hk)
  have hrel9 : M16.1 0 0 10 = M16.1 60 0 16 ∧ M16.1 0 0 9 = M16.1 60 0 0 ∧ M16.1 0 0 11 = M16.1 60 0 21 ∧ (∀ j : Nat, j < nb → M16.1 50 j 2 = M16.1 111 0 j) ∧ (∀ j : Nat, j < 4 → M16.1 46 j 1 = M16.1 175 0 j) ∧ (∀ j : Nat, j < 4 → M16.1 46 j 2 = M16.1 176 0 j) ∧ (∀ j : Nat, j < nb → M16.1 50 j 0 = M16.1 110 0 j) ∧ (∀ j : Nat, j < nb → M16.1 50 j 1 = M16.1 112 0 j) ∧ M16.1 1 0 2 = M16.1 60 0 5 ∧ M16.1 27 0 1 = M16.1 60 0 52 ∧ M16.1 27 0 3 = M16.1 60 0 55 ∧ (∀ j : Nat, M16.1 28 0 j = M16.1 151 0 j) ∧ M16.1 27 0 4 = M16.1 60 0 56 ∧ M16.1 21 0 5 = M16.1 60 0 44 ∧ (∀ j : Nat, M16.1 22 0 j = M16.1 140 0 j) ∧ (∀ j : Nat, M16.1 23 0 j = M16.1 141 0 j) ∧ (∀ j : Nat, M16.1 24 0 j = M16.1 142 0 j) ∧ (∀ j : Nat, M16.1 25 0 j = M16.1 143 0 j) ∧ (∀ j : Nat, j < nb → M16.1 50 j 4 = M16.1 115 0 j) ∧ (∀ s i : Nat, s < 4 → i < 40 → M16.1 47 s i = M16.1 177 0 (40 * s + i)) ∧ rt_WN M16 ∧ rt_PC nb M16 ∧ rt_FB M16 ∧ (∀ j : Nat, j < nb → rt_nkM M16 j = rt_nmM M16 j) ∧ rt_BN nb M16 ∧ (∀ k : Nat, (k : Int) < (M16.1 27 0 3).toInt → rt_TR M16 k) ∧ (M16.1 27 0 4).toInt < (M16.1 27 0 3).toInt ∧ (∀ k : Nat, (k : Int) < (M16.1 21 0 5).toInt → (M16.1 22 0 k).toInt < nb) := ⟨hr90, hr91, hr92, hr93, hr94, hr95, hr96, hr97, hr98, hr99, hr910, hr911, hr912, hr913, hr914, hr915, hr916, hr917, hr918, hs90, hs91, hs92, hs93, hs94, hs95, hs96, hs97, hs98⟩
  exact kk M16 _ _ hw hI hS hrel9 ls (lv_sub hl [0, 1, 2, 3] rfl)
set_option maxHeartbeats 1000000 in
set_option maxRecDepth 20000 in
theorem lb_32 {p : Program} {l : Launch} {e : Env} {s : State} {m : MethodId} {below : List Frame} {meth : Method} {c : Code} {D : va_G} {ad : Nat → Nat → Nat} {C : Nat → Nat → ClassId} {nb : Nat} {M : fm_M} {b L : Nat} {xs : Nat → Int32} {H : Heap} {locs : List Loc} {kc sl : Nat} {i : Int32} (C0 : lw_At p s m meth c b L xs) (hkc : kc ≤ 10000) (hsl : sl ≤ 300000) (hc : fm_Cx D ad C nb (fun q : Nat => s.heap.size ≤ q) s) (hw : fm_at D ad C nb M H) (hI : fm_I nb ad M) (hS : va_S (fun q : Nat => s.heap.size ≤ q) s.heap H locs) (hi : 0 ≤ i.toInt ∧ i.toInt + 6 ≤ L) (hL : L ≤ 3072) (hrel : M.1 0 0 10 = M.1 60 0 16 ∧ M.1 0 0 9 = M.1 60 0 0 ∧ M.1 0 0 11 = M.1 60 0 21 ∧ (∀ j : Nat, j < nb → M.1 50 j 2 = M.1 111 0 j) ∧ (∀ j : Nat, j < 4 → M.1 46 j 1 = M.1 175 0 j) ∧ (∀ j : Nat, j < 4 → M.1 46 j 2 = M.1 176 0 j) ∧ (∀ j : Nat, j < nb → M.1 50 j 0 = M.1 110 0 j) ∧ (∀ j : Nat, j < nb → M.1 50 j 1 = M.1 112 0 j) ∧ M.1 1 0 2 = M.1 60 0 5 ∧ M.1 27 0 1 = M.1 60 0 52 ∧ M.1 27 0 3 = M.1 60 0 55 ∧ (∀ j : Nat, M.1 28 0 j = M.1 151 0 j) ∧ M.1 27 0 4 = M.1 60 0 56 ∧ M.1 21 0 5 = M.1 60 0 44 ∧ (∀ j : Nat, M.1 22 0 j = M.1 140 0 j) ∧ (∀ j : Nat, M.1 23 0 j = M.1 141 0 j) ∧ (∀ j : Nat, M.1 24 0 j = M.1 142 0 j) ∧ (∀ j : Nat, M.1 25 0 j = M.1 143 0 j) ∧ (∀ j : Nat, j < nb → M.1 50 j 4 = M.1 115 0 j) ∧ (∀ s i : Nat, s < 4 → i < 40 → M.1 47 s i = M.1 177 0 (40 * s + i)) ∧ rt_WN M ∧ rt_PC nb M ∧ rt_FB M ∧ (∀ j : Nat, j < nb → rt_nkM M j = rt_nmM M j) ∧ rt_BN nb M ∧ (∀ k : Nat, (k : Int) < (M.1 27 0 3).toInt → rt_TR M k) ∧ (M.1 27 0 4).toInt < (M.1 27 0 3).toInt ∧ (∀ k : Nat, (k : Int) < (M.1 21 0 5).toInt → (M.1 22 0 k).toInt < nb)) (kk : ∀ (M1 : fm_M) (H1 : Heap) (locs1 : List Loc), fm_at D ad C nb M1 H1 → fm_I nb ad M1 → va_S (fun q : Nat => s.heap.size ≤ q) s.heap H1 locs1 → M1.1 0 0 10 = M1.1 60 0 16 ∧ M1.1 0 0 9 = M1.1 60 0 0 ∧ M1.1 0 0 11 = M1.1 60 0 21 ∧ (∀ j : Nat, j < nb → M1.1 50 j 2 = M1.1 111 0 j) ∧ (∀ j : Nat, j < 4 → M1.1 46 j 1 = M1.1 175 0 j) ∧ (∀ j : Nat, j < 4 → M1.1 46 j 2 = M1.1 176 0 j) ∧ (∀ j : Nat, j < nb → M1.1 50 j 0 = M1.1 110 0 j) ∧ (∀ j : Nat, j < nb → M1.1 50 j 1 = M1.1 112 0 j) ∧ M1.1 1 0 2 = M1.1 60 0 5 ∧ M1.1 27 0 1 = M1.1 60 0 52 ∧ M1.1 27 0 3 = M1.1 60 0 55 ∧ (∀ j : Nat, M1.1 28 0 j = M1.1 151 0 j) ∧ M1.1 27 0 4 = M1.1 60 0 56 ∧ M1.1 21 0 5 = M1.1 60 0 44 ∧ (∀ j : Nat, M1.1 22 0 j = M1.1 140 0 j) ∧ (∀ j : Nat, M1.1 23 0 j = M1.1 141 0 j) ∧ (∀ j : Nat, M1.1 24 0 j = M1.1 142 0 j) ∧ (∀ j : Nat, M1.1 25 0 j = M1.1 143 0 j) ∧ (∀ j : Nat, j < nb → M1.1 50 j 4 = M1.1 115 0 j) ∧ (∀ s i : Nat, s < 4 → i < 40 → M1.1 47 s i = M1.1 177 0 (40 * s + i)) ∧ rt_WN M1 ∧ rt_PC nb M1 ∧ rt_FB M1 ∧ (∀ j : Nat, j < nb → rt_nkM M1 j = rt_nmM M1 j) ∧ rt_BN nb M1 ∧ (∀ k : Nat, (k : Int) < (M1.1 27 0 3).toInt → rt_TR M1 k) ∧ (M1.1 27 0 4).toInt < (M1.1 27 0 3).toInt ∧ (∀ k : Nat, (k : Int) < (M1.1 21 0 5).toInt → (M1.1 22 0 k).toInt < nb) → ∀ ls : Array Slot, lv_has ls 4 [(3, .int i), (2, .ref (ad 60 0)), (1, .ref (ad 0 0)), (0, .ref b)] → W p l e room_1 s m #[Value.ref b] below meth c H1 locs1 kc sl (lw_Z below #[Value.ref b] s) (F0 m 1835 ls [])) (ls : Array Slot) (hl : lv_has ls 4 [(3, .int i), (2, .ref (ad 60 0)), (1, .ref (ad 0 0)), (0, .ref b)]) : W p l e room_1 s m #[Value.ref b] below meth c H locs kc sl (lw_Z below #[Value.ref b] s) (F0 m 1567 ls []) := by
  obtain ⟨hx, hb, hr, hml, hown, hts, hX, hbl, hlocks, hgv⟩ := id C0
  have hown : s.vm.findClass RL = some m.cls := hown
  have hb : c.code = cL_law := hb
  have hbA : ¬ (fun q : Nat => s.heap.size ≤ q) b := Nat.not_le.mpr hbl
  have hk1 : kc + 0 ≤ room_1.cells := by show kc + 0 ≤ 600000; omega
  have hs1 : sl + 0 ≤ room_1.slots := by show sl + 0 ≤ 7302250; omega
  have hI0 := hI
  have hPC : rt_PC nb M := hrel.2.2.2.2.2.2.2.2.2.2.2.2.2.2.2.2.2.2.2.2.2.1
  have hCI : rt_CI nb M := hPC.1
  have hTI : rt_TI nb M := hPC.2.1
  have hBN : rt_BN nb M := hrel.2.2.2.2.2.2.2.2.2.2.2.2.2.2.2.2.2.2.2.2.2.2.2.2.1
  refine lv_aload_n hx hb dL_law_1567 rfl (lv_at hl 2 rfl) ?_
  refine lv_aload_n hx hb dL_law_1568 rfl (lv_at hl 3 rfl) ?_
  refine lv_iload_n hx hb dL_law_1569 rfl (lv_at hl 0 rfl) ?_
  refine lv_iconst (v := 1) hx hb dL_law_1570 (by decide) ?_
  refine fx_iadd hx hb dL_law_1571 rfl zk_1 (by omega) (fun y1 ey1 ty1 => ?_)
  refine va_sld hx hb hX hbl hbA hS (fm_in (by omega)) dL_law_1572 ?_
  refine lv_topi (fun x2 ex2 => ?_)
  refine vp_callSi (va_Run.run (va_runV (As := [.int x2]) (rest := []) ⟨hx, hb, hml, hown, hts⟩ (fc_X11_count l D ad C nb M hI x2) (cwV 1 hts gL_law_X11_count rfl rfl rfl (by decide +kernel) ⟨Nat.le_of_ble_eq_true rfl, Nat.le_of_ble_eq_true rfl⟩) (fm_preV hc hw hS kl_0 sh_0 rfl) rfl rfl hl.1 rfl (lv_room (Nat.le_of_ble_eq_true rfl)) dL_law_1573 ⟨hk1, hs1⟩)) (fun r3 hr3 => ?_)
  refine lv_pop hx hb dL_law_1576 rfl ?_
  refine lv_aload_n hx hb dL_law_1577 rfl (lv_at hl 1 rfl) ?_
  refine lv_aload_n hx hb dL_law_1578 rfl (lv_at hl 3 rfl) ?_
  refine lv_iload_n hx hb dL_law_1579 rfl (lv_at hl 0 rfl) ?_
  refine lv_iconst (v := 1) hx hb dL_law_1580 (by decide) ?_
  refine fx_iadd hx hb dL_law_1581 rfl zk_1 (by omega) (fun y4 ey4 ty4 => ?_)
  refine va_sld hx hb hX hbl hbA hS (fm_in (by omega)) dL_law_1582 ?_
  refine lv_topi (fun x5 ex5 => ?_)
  have qx5 : x2 = x5 := by rw [ex5, ex2, ey4, ey1]
  clear ex5
  subst qx5
  refine vp_callSi (va_Run.run (va_runV (As := [.int x2]) (rest := []) ⟨hx, hb, hml, hown, hts⟩ (fc_X12_count l D ad C nb M hI x2) (cwV 1 hts gL_law_X12_count rfl rfl rfl (by decide +kernel) ⟨Nat.le_of_ble_eq_true rfl, Nat.le_of_ble_eq_true rfl⟩) (fm_preV hc hw hS kl_60 sh_60 rfl) rfl rfl hl.1 rfl (lv_room (Nat.le_of_ble_eq_true rfl)) dL_law_1583 ⟨hk1, hs1⟩)) (fun r6 hr6 => ?_)
  refine lv_pop hx hb dL_law_1586 rfl ?_
  refine lv_goto (tgt := 1835) hx hb dL_law_1587 (by decide) ?_
  have hr90 : M.1 0 0 10 = M.1 60 0 16 := hrel.1
  have hr91 : M.1 0 0 9 = M.1 60 0 0 := hrel.2.1
  have hr92 : M.1 0 0 11 = M.1 60 0 21 := hrel.2.2.1
  have hr93 : (∀ j : Nat, j < nb → M.1 50 j 2 = M.1 111 0 j) := fun j hj => by exact hrel.2.2.2.1 j hj
  have hr94 : (∀ j : Nat, j < 4 → M.1 46 j 1 = M.1 175 0 j) := fun j hj => by exact hrel.2.2.2.2.1 j hj
  have hr95 : (∀ j : Nat, j < 4 → M.1 46 j 2 = M.1 176 0 j) := fun j hj => by exact hrel.2.2.2.2.2.1 j hj
  have hr96 : (∀ j : Nat, j < nb → M.1 50 j 0 = M.1 110 0 j) := fun j hj => by exact hrel.2.2.2.2.2.2.1 j hj
  have hr97 : (∀ j : Nat, j < nb → M.1 50 j 1 = M.1 112 0 j) := fun j hj => by exact hrel.2.2.2.2.2.2.2.1 j hj
  have hr98 : M.1 1 0 2 = M.1 60 0 5 := hrel.2.2.2.2.2.2.2.2.1
  have hr99 : M.1 27 0 1 = M.1 60 0 52 := hrel.2.2.2.2.2.2.2.2.2.1
  have hr910 : M.1 27 0 3 = M.1 60 0 55 := hrel.2.2.2.2.2.2.2.2.2.2.1
  have hr911 : (∀ j : Nat, M.1 28 0 j = M.1 151 0 j) := fun j => by exact hrel.2.2.2.2.2.2.2.2.2.2.2.1 j
  have hr912 : M.1 27 0 4 = M.1 60 0 56 := hrel.2.2.2.2.2.2.2.2.2.2.2.2.1
  have hr913 : M.1 21 0 5 = M.1 60 0 44 := hrel.2.2.2.2.2.2.2.2.2.2.2.2.2.1
  have hr914 : (∀ j : Nat, M.1 22 0 j = M.1 140 0 j) := fun j => by exact hrel.2.2.2.2.2.2.2.2.2.2.2.2.2.2.1 j
  have hr915 : (∀ j : Nat, M.1 23 0 j = M.1 141 0 j) := fun j => by exact hrel.2.2.2.2.2.2.2.2.2.2.2.2.2.2.2.1 j
  have hr916 : (∀ j : Nat, M.1 24 0 j = M.1 142 0 j) := fun j => by exact hrel.2.2.2.2.2.2.2.2.2.2.2.2.2.2.2.2.1 j
  have hr917 : (∀ j : Nat, M.1 25 0 j = M.1 143 0 j) := fun j => by exact hrel.2.2.2.2.2.2.2.2.2.2.2.2.2.2.2.2.2.1 j
  have hr918 : (∀ j : Nat, j < nb → M.1 50 j 4 = M.1 115 0 j) := fun j hj => by exact hrel.2.2.2.2.2.2.2.2.2.2.2.2.2.2.2.2.2.2.1 j hj
  have hs90 : (∀ s i : Nat, s < 4 → i < 40 → M.1 47 s i = M.1 177 0 (40 * s + i)) := fun s i hs hi => by exact hrel.2.2.2.2.2.2.2.2.2.2.2.2.2.2.2.2.2.2.2.1 s i hs hi
  have hs91_1 : rt_WN M := hrel.2.2.2.2.2.2.2.2.2.2.2.2.2.2.2.2.2.2.2.2.1
  have hs91 : rt_WN M := hs91_1
  have hs92_1 : rt_PC nb M := hrel.2.2.2.2.2.2.2.2.2.2.2.2.2.2.2.2.2.2.2.2.2.1
  have hs92 : rt_PC nb M := hs92_1
  have hs93_1 : rt_FB M := hrel.2.2.2.2.2.2.2.2.2.2.2.2.2.2.2.2.2.2.2.2.2.2.1
  have hs93 : rt_FB M := hs93_1
  have hs94 : (∀ j : Nat, j < nb → rt_nkM M j = rt_nmM M j) := by exact hrel.2.2.2.2.2.2.2.2.2.2.2.2.2.2.2.2.2.2.2.2.2.2.2.1
  have hs95_1 : rt_BN nb M := hrel.2.2.2.2.2.2.2.2.2.2.2.2.2.2.2.2.2.2.2.2.2.2.2.2.1
  have hs95 : rt_BN nb M := hs95_1
  have hs96_1 : (∀ k : Nat, (k : Int) < (M.1 27 0 3).toInt → rt_TR M k) := hrel.2.2.2.2.2.2.2.2.2.2.2.2.2.2.2.2.2.2.2.2.2.2.2.2.2.1
  have hs96 : (∀ k : Nat, (k : Int) < (M.1 27 0 3).toInt → rt_TR M k) := hs96_1
  have hs97 : (M.1 27 0 4).toInt < (M.1 27 0 3).toInt := hrel.2.2.2.2.2.2.2.2.2.2.2.2.2.2.2.2.2.2.2.2.2.2.2.2.2.2.1
  have hs98_1 : (∀ k : Nat, (k : Int) < (M.1 21 0 5).toInt → (M.1 22 0 k).toInt < nb) := hrel.2.2.2.2.2.2.2.2.2.2.2.2.2.2.2.2.2.2.2.2.2.2.2.2.2.2.2
  have hs98 : (∀ k : Nat, (k : Int) < (M.1 21 0 5).toInt → (M.1 22 0 k).toInt < nb) := hs98_1
  have hrel9 : M.1 0 0 10 = M.1 60 0 16 ∧ M.1 0 0 9 = M.1 60 0 0 ∧ M.1 0 0 11 = M.1 60 0 21 ∧ (∀ j : Nat, j < nb → M.1 50 j 2 = M.1 111 0 j) ∧ (∀ j : Nat, j < 4 → M.1 46 j 1 = M.1 175 0 j) ∧ (∀ j : Nat, j < 4 → M.1 46 j 2 = M.1 176 0 j) ∧ (∀ j : Nat, j < nb → M.1 50 j 0 = M.1 110 0 j) ∧ (∀ j : Nat, j < nb → M.1 50 j 1 = M.1 112 0 j) ∧ M.1 1 0 2 = M.1 60 0 5 ∧ M.1 27 0 1 = M.1 60 0 52 ∧ M.1 27 0 3 = M.1 60 0 55 ∧ (∀ j : Nat, M.1 28 0 j = M.1 151 0 j) ∧ M.1 27 0 4 = M.1 60 0 56 ∧ M.1 21 0 5 = M.1 60 0 44 ∧ (∀ j : Nat, M.1 22 0 j = M.1 140 0 j) ∧ (∀ j : Nat, M.1 23 0 j = M.1 141 0 j) ∧ (∀ j : Nat, M.1 24 0 j = M.1 142 0 j) ∧ (∀ j : Nat, M.1 25 0 j = M.1 143 0 j) ∧ (∀ j : Nat, j < nb → M.1 50 j 4 = M.1 115 0 j) ∧ (∀ s i : Nat, s < 4 → i < 40 → M.1 47 s i = M.1 177 0 (40 * s + i)) ∧ rt_WN M ∧ rt_PC nb M ∧ rt_FB M ∧ (∀ j : Nat, j < nb → rt_nkM M j = rt_nmM M j) ∧ rt_BN nb M ∧ (∀ k : Nat, (k : Int) < (M.1 27 0 3).toInt → rt_TR M k) ∧ (M.1 27 0 4).toInt < (M.1 27 0 3).toInt ∧ (∀ k : Nat, (k : Int) < (M.1 21 0 5).toInt → (M.1 22 0 k).toInt < nb) := ⟨hr90, hr91, hr92, hr93, hr94, hr95, hr96, hr97, hr98, hr99, hr910, hr911, hr912, hr913, hr914, hr915, hr916, hr917, hr918, hs90, hs91, hs92, hs93, hs94, hs95, hs96, hs97, hs98⟩
  exact kk M _ _ hw hI hS hrel9 ls (lv_sub hl [0, 1, 2, 3] rfl)
set_option maxHeartbeats 1000000 in
set_option maxRecDepth 20000 in
theorem lb_33 {p : Program} {l : Launch} {e : Env} {s : State} {m : MethodId} {below : List Frame} {meth : Method} {c : Code} {D : va_G} {ad : Nat → Nat → Nat} {C : Nat → Nat → ClassId} {nb : Nat} {M : fm_M} {b L : Nat} {xs : Nat → Int32} {H : Heap} {locs : List Loc} {kc sl : Nat} {i : Int32} (C0 : lw_At p s m meth c b L xs) (hkc : kc ≤ 10000) (hsl : sl ≤ 300000) (hc : fm_Cx D ad C nb (fun q : Nat => s.heap.size ≤ q) s) (hw : fm_at D ad C nb M H) (hI : fm_I nb ad M) (hS : va_S (fun q : Nat => s.heap.size ≤ q) s.heap H locs) (hi : 0 ≤ i.toInt ∧ i.toInt + 6 ≤ L) (hL : L ≤ 3072) (hrel : M.1 0 0 10 = M.1 60 0 16 ∧ M.1 0 0 9 = M.1 60 0 0 ∧ M.1 0 0 11 = M.1 60 0 21 ∧ (∀ j : Nat, j < nb → M.1 50 j 2 = M.1 111 0 j) ∧ (∀ j : Nat, j < 4 → M.1 46 j 1 = M.1 175 0 j) ∧ (∀ j : Nat, j < 4 → M.1 46 j 2 = M.1 176 0 j) ∧ (∀ j : Nat, j < nb → M.1 50 j 0 = M.1 110 0 j) ∧ (∀ j : Nat, j < nb → M.1 50 j 1 = M.1 112 0 j) ∧ M.1 1 0 2 = M.1 60 0 5 ∧ M.1 27 0 1 = M.1 60 0 52 ∧ M.1 27 0 3 = M.1 60 0 55 ∧ (∀ j : Nat, M.1 28 0 j = M.1 151 0 j) ∧ M.1 27 0 4 = M.1 60 0 56 ∧ M.1 21 0 5 = M.1 60 0 44 ∧ (∀ j : Nat, M.1 22 0 j = M.1 140 0 j) ∧ (∀ j : Nat, M.1 23 0 j = M.1 141 0 j) ∧ (∀ j : Nat, M.1 24 0 j = M.1 142 0 j) ∧ (∀ j : Nat, M.1 25 0 j = M.1 143 0 j) ∧ (∀ j : Nat, j < nb → M.1 50 j 4 = M.1 115 0 j) ∧ (∀ s i : Nat, s < 4 → i < 40 → M.1 47 s i = M.1 177 0 (40 * s + i)) ∧ rt_WN M ∧ rt_PC nb M ∧ rt_FB M ∧ (∀ j : Nat, j < nb → rt_nkM M j = rt_nmM M j) ∧ rt_BN nb M ∧ (∀ k : Nat, (k : Int) < (M.1 27 0 3).toInt → rt_TR M k) ∧ (M.1 27 0 4).toInt < (M.1 27 0 3).toInt ∧ (∀ k : Nat, (k : Int) < (M.1 21 0 5).toInt → (M.1 22 0 k).toInt < nb)) (kk : ∀ (M1 : fm_M) (H1 : Heap) (locs1 : List Loc), fm_at D ad C nb M1 H1 → fm_I nb ad M1 → va_S (fun q : Nat => s.heap.size ≤ q) s.heap H1 locs1 → M1.1 0 0 10 = M1.1 60 0 16 ∧ M1.1 0 0 9 = M1.1 60 0 0 ∧ M1.1 0 0 11 = M1.1 60 0 21 ∧ (∀ j : Nat, j < nb → M1.1 50 j 2 = M1.1 111 0 j) ∧ (∀ j : Nat, j < 4 → M1.1 46 j 1 = M1.1 175 0 j) ∧ (∀ j : Nat, j < 4 → M1.1 46 j 2 = M1.1 176 0 j) ∧ (∀ j : Nat, j < nb → M1.1 50 j 0 = M1.1 110 0 j) ∧ (∀ j : Nat, j < nb → M1.1 50 j 1 = M1.1 112 0 j) ∧ M1.1 1 0 2 = M1.1 60 0 5 ∧ M1.1 27 0 1 = M1.1 60 0 52 ∧ M1.1 27 0 3 = M1.1 60 0 55 ∧ (∀ j : Nat, M1.1 28 0 j = M1.1 151 0 j) ∧ M1.1 27 0 4 = M1.1 60 0 56 ∧ M1.1 21 0 5 = M1.1 60 0 44 ∧ (∀ j : Nat, M1.1 22 0 j = M1.1 140 0 j) ∧ (∀ j : Nat, M1.1 23 0 j = M1.1 141 0 j) ∧ (∀ j : Nat, M1.1 24 0 j = M1.1 142 0 j) ∧ (∀ j : Nat, M1.1 25 0 j = M1.1 143 0 j) ∧ (∀ j : Nat, j < nb → M1.1 50 j 4 = M1.1 115 0 j) ∧ (∀ s i : Nat, s < 4 → i < 40 → M1.1 47 s i = M1.1 177 0 (40 * s + i)) ∧ rt_WN M1 ∧ rt_PC nb M1 ∧ rt_FB M1 ∧ (∀ j : Nat, j < nb → rt_nkM M1 j = rt_nmM M1 j) ∧ rt_BN nb M1 ∧ (∀ k : Nat, (k : Int) < (M1.1 27 0 3).toInt → rt_TR M1 k) ∧ (M1.1 27 0 4).toInt < (M1.1 27 0 3).toInt ∧ (∀ k : Nat, (k : Int) < (M1.1 21 0 5).toInt → (M1.1 22 0 k).toInt < nb) → ∀ ls : Array Slot, lv_has ls 4 [(3, .int i), (2, .ref (ad 60 0)), (1, .ref (ad 0 0)), (0, .ref b)] → W p l e room_1 s m #[Value.ref b] below meth c H1 locs1 kc sl (lw_Z below #[Value.ref b] s) (F0 m 1835 ls [])) (ls : Array Slot) (hl : lv_has ls 4 [(3, .int i), (2, .ref (ad 60 0)), (1, .ref (ad 0 0)), (0, .ref b)]) : W p l e room_1 s m #[Value.ref b] below meth c H locs kc sl (lw_Z below #[Value.ref b] s) (F0 m 1590 ls []) := by
  obtain ⟨hx, hb, hr, hml, hown, hts, hX, hbl, hlocks, hgv⟩ := id C0
  have hown : s.vm.findClass RL = some m.cls := hown
  have hb : c.code = cL_law := hb
  have hbA : ¬ (fun q : Nat => s.heap.size ≤ q) b := Nat.not_le.mpr hbl
  have hk1 : kc + 0 ≤ room_1.cells := by show kc + 0 ≤ 600000; omega
  have hs1 : sl + 0 ≤ room_1.slots := by show sl + 0 ≤ 7302250; omega
  have hI0 := hI
  have hPC : rt_PC nb M := hrel.2.2.2.2.2.2.2.2.2.2.2.2.2.2.2.2.2.2.2.2.2.1
  have hCI : rt_CI nb M := hPC.1
  have hTI : rt_TI nb M := hPC.2.1
  have hBN : rt_BN nb M := hrel.2.2.2.2.2.2.2.2.2.2.2.2.2.2.2.2.2.2.2.2.2.2.2.2.1
  refine lv_aload_n hx hb dL_law_1590 rfl (lv_at hl 2 rfl) ?_
  refine lv_aload_n hx hb dL_law_1591 rfl (lv_at hl 3 rfl) ?_
  refine lv_iload_n hx hb dL_law_1592 rfl (lv_at hl 0 rfl) ?_
  refine lv_iconst (v := 1) hx hb dL_law_1593 (by decide) ?_
  refine fx_iadd hx hb dL_law_1594 rfl zk_1 (by omega) (fun y1 ey1 ty1 => ?_)
  refine va_sld hx hb hX hbl hbA hS (fm_in (by omega)) dL_law_1595 ?_
  refine lv_topi (fun x2 ex2 => ?_)
  refine lv_aload_n hx hb dL_law_1596 rfl (lv_at hl 3 rfl) ?_
  refine lv_iload_n hx hb dL_law_1597 rfl (lv_at hl 0 rfl) ?_
  refine lv_iconst (v := 2) hx hb dL_law_1598 (by decide) ?_
  refine fx_iadd hx hb dL_law_1599 rfl zk_2 (by omega) (fun y3 ey3 ty3 => ?_)
  refine va_sld hx hb hX hbl hbA hS (fm_in (by omega)) dL_law_1600 ?_
  refine lv_topi (fun x4 ex4 => ?_)
  refine lv_aload_n hx hb dL_law_1601 rfl (lv_at hl 3 rfl) ?_
  refine lv_iload_n hx hb dL_law_1602 rfl (lv_at hl 0 rfl) ?_
  refine lv_iconst (v := 3) hx hb dL_law_1603 (by decide) ?_
  refine fx_iadd hx hb dL_law_1604 rfl zk_3 (by omega) (fun y5 ey5 ty5 => ?_)
  refine va_sld hx hb hX hbl hbA hS (fm_in (by omega)) dL_law_1605 ?_
  refine lv_topi (fun x6 ex6 => ?_)
  refine fm_ci (va_runV (As := [.int x2, .int x4, .int x6]) (rest := []) ⟨hx, hb, hml, hown, hts⟩ (fc_X11_sheet l D ad C nb M hI x2 x4 x6) (cwV 3 hts gL_law_X11_sheet rfl rfl rfl (by decide +kernel) ⟨Nat.le_of_ble_eq_true rfl, Nat.le_of_ble_eq_true rfl⟩) (fm_preV hc hw hS kl_0 sh_0 rfl) rfl rfl hl.1 rfl (lv_room (Nat.le_of_ble_eq_true rfl)) dL_law_1606 ⟨hk1, hs1⟩) hS hc (fun r7 M8 H locs hr7 hw hS => ?_)
  obtain ⟨hI, hEM8, hr7⟩ := hr7
  refine lv_pop hx hb dL_law_1609 rfl ?_
  refine lv_aload_n hx hb dL_law_1610 rfl (lv_at hl 1 rfl) ?_
  refine lv_aload_n hx hb dL_law_1611 rfl (lv_at hl 3 rfl) ?_
  refine lv_iload_n hx hb dL_law_1612 rfl (lv_at hl 0 rfl) ?_
  refine lv_iconst (v := 1) hx hb dL_law_1613 (by decide) ?_
  refine fx_iadd hx hb dL_law_1614 rfl zk_1 (by omega) (fun y9 ey9 ty9 => ?_)
  refine va_sld hx hb hX hbl hbA hS (fm_in (by omega)) dL_law_1615 ?_
  refine lv_topi (fun x10 ex10 => ?_)
  have qx10 : x2 = x10 := by rw [ex10, ex2, ey9, ey1]
  clear ex10
  subst qx10
  refine lv_aload_n hx hb dL_law_1616 rfl (lv_at hl 3 rfl) ?_
  refine lv_iload_n hx hb dL_law_1617 rfl (lv_at hl 0 rfl) ?_
  refine lv_iconst (v := 2) hx hb dL_law_1618 (by decide) ?_
  refine fx_iadd hx hb dL_law_1619 rfl zk_2 (by omega) (fun y11 ey11 ty11 => ?_)
  refine va_sld hx hb hX hbl hbA hS (fm_in (by omega)) dL_law_1620 ?_
  refine lv_topi (fun x12 ex12 => ?_)
  have qx12 : x4 = x12 := by rw [ex12, ex4, ey11, ey3]
  clear ex12
  subst qx12
  refine lv_aload_n hx hb dL_law_1621 rfl (lv_at hl 3 rfl) ?_
  refine lv_iload_n hx hb dL_law_1622 rfl (lv_at hl 0 rfl) ?_
  refine lv_iconst (v := 3) hx hb dL_law_1623 (by decide) ?_
  refine fx_iadd hx hb dL_law_1624 rfl zk_3 (by omega) (fun y13 ey13 ty13 => ?_)
  refine va_sld hx hb hX hbl hbA hS (fm_in (by omega)) dL_law_1625 ?_
  refine lv_topi (fun x14 ex14 => ?_)
  have qx14 : x6 = x14 := by rw [ex14, ex6, ey13, ey5]
  clear ex14
  subst qx14
  refine fm_ci (va_runV (As := [.int x2, .int x4, .int x6]) (rest := []) ⟨hx, hb, hml, hown, hts⟩ (fc_X12_sheet l D ad C nb M8 hI x2 x4 x6) (cwV 3 hts gL_law_X12_sheet rfl rfl rfl (by decide +kernel) ⟨Nat.le_of_ble_eq_true rfl, Nat.le_of_ble_eq_true rfl⟩) (fm_preV hc hw hS kl_60 sh_60 rfl) rfl rfl hl.1 rfl (lv_room (Nat.le_of_ble_eq_true rfl)) dL_law_1626 ⟨hk1, hs1⟩) hS hc (fun r15 M16 H locs hr15 hw hS => ?_)
  obtain ⟨hI, hEM16, hr15⟩ := hr15
  refine lv_pop hx hb dL_law_1629 rfl ?_
  refine lv_goto (tgt := 1835) hx hb dL_law_1630 (by decide) ?_
  have f10 : (M8.1 60 0 16).toInt = (M.1 0 0 10).toInt := by rw [(hEM8 60 0 16 (by decide)).1, hrel.1]
  have f20 : (M16.1 0 0 10).toInt = (M8.1 0 0 10).toInt := by rw [(hEM16 0 0 10 (by decide)).1]
  have f30 : (M8.1 0 0 10).toInt = (M.1 0 0 10).toInt := by rw [(hEM8 0 0 10 (by decide)).1]
  have f40 : (M16.1 60 0 16).toInt = (M8.1 60 0 16).toInt := by rw [(hEM16 60 0 16 (by decide)).1]
  have f50 := hI0.bd (k := 0) bd_0_10
  have f11 : (M8.1 60 0 0).toInt = (M.1 0 0 9).toInt := by rw [(hEM8 60 0 0 (by decide)).1, hrel.2.1]
  have f21 : (M16.1 0 0 9).toInt = (M8.1 0 0 9).toInt := by rw [(hEM16 0 0 9 (by decide)).1]
  have f31 : (M8.1 0 0 9).toInt = (M.1 0 0 9).toInt := by rw [(hEM8 0 0 9 (by decide)).1]
  have f41 : (M16.1 60 0 0).toInt = (M8.1 60 0 0).toInt := by rw [(hEM16 60 0 0 (by decide)).1]
  have f51 := hI0.bd (k := 0) bd_0_9
  have f12 : (M8.1 60 0 21).toInt = (M.1 0 0 11).toInt := by rw [(hEM8 60 0 21 (by decide)).1, hrel.2.2.1]
  have f22 : (M16.1 0 0 11).toInt = (M8.1 0 0 11).toInt := by rw [(hEM16 0 0 11 (by decide)).1]
  have f32 : (M8.1 0 0 11).toInt = (M.1 0 0 11).toInt := by rw [(hEM8 0 0 11 (by decide)).1]
  have f42 : (M16.1 60 0 21).toInt = (M8.1 60 0 21).toInt := by rw [(hEM16 60 0 21 (by decide)).1]
  have f52 := hI0.bd (k := 0) bd_0_11
  have f18 : (M8.1 60 0 5).toInt = (M.1 1 0 2).toInt := by rw [(hEM8 60 0 5 (by decide)).1, hrel.2.2.2.2.2.2.2.2.1]
  have f28 : (M16.1 1 0 2).toInt = (M8.1 1 0 2).toInt := by rw [(hEM16 1 0 2 (by decide)).1]
  have f38 : (M8.1 1 0 2).toInt = (M.1 1 0 2).toInt := by rw [(hEM8 1 0 2 (by decide)).1]
  have f48 : (M16.1 60 0 5).toInt = (M8.1 60 0 5).toInt := by rw [(hEM16 60 0 5 (by decide)).1]
  have f58 := hI0.bd (k := 0) bd_1_2
  have f19 : (M8.1 60 0 52).toInt = (M.1 27 0 1).toInt := by rw [(hEM8 60 0 52 (by decide)).1, hrel.2.2.2.2.2.2.2.2.2.1]
  have f29 : (M16.1 27 0 1).toInt = (M8.1 27 0 1).toInt := by rw [(hEM16 27 0 1 (by decide)).1]
  have f39 : (M8.1 27 0 1).toInt = (M.1 27 0 1).toInt := by rw [(hEM8 27 0 1 (by decide)).1]
  have f49 : (M16.1 60 0 52).toInt = (M8.1 60 0 52).toInt := by rw [(hEM16 60 0 52 (by decide)).1]
  have f59 := hI0.bd (k := 0) bd_27_1
  have f110 : (M8.1 60 0 55).toInt = (M.1 27 0 3).toInt := by rw [(hEM8 60 0 55 (by decide)).1, hrel.2.2.2.2.2.2.2.2.2.2.1]
  have f210 : (M16.1 27 0 3).toInt = (M8.1 27 0 3).toInt := by rw [(hEM16 27 0 3 (by decide)).1]
  have f310 : (M8.1 27 0 3).toInt = (M.1 27 0 3).toInt := by rw [(hEM8 27 0 3 (by decide)).1]
  have f410 : (M16.1 60 0 55).toInt = (M8.1 60 0 55).toInt := by rw [(hEM16 60 0 55 (by decide)).1]
  have f510 := hI0.bd (k := 0) bd_27_3
  have f112 : (M8.1 60 0 56).toInt = (M.1 27 0 4).toInt := by rw [(hEM8 60 0 56 (by decide)).1, hrel.2.2.2.2.2.2.2.2.2.2.2.2.1]
  have f212 : (M16.1 27 0 4).toInt = (M8.1 27 0 4).toInt := by rw [(hEM16 27 0 4 (by decide)).1]
  have f312 : (M8.1 27 0 4).toInt = (M.1 27 0 4).toInt := by rw [(hEM8 27 0 4 (by decide)).1]
  have f412 : (M16.1 60 0 56).toInt = (M8.1 60 0 56).toInt := by rw [(hEM16 60 0 56 (by decide)).1]
  have f512 := hI0.bd (k := 0) bd_27_4
  have f113 : (M8.1 60 0 44).toInt = (M.1 21 0 5).toInt := by rw [(hEM8 60 0 44 (by decide)).1, hrel.2.2.2.2.2.2.2.2.2.2.2.2.2.1]
  have f213 : (M16.1 21 0 5).toInt = (M8.1 21 0 5).toInt := by rw [(hEM16 21 0 5 (by decide)).1]
  have f313 : (M8.1 21 0 5).toInt = (M.1 21 0 5).toInt := by rw [(hEM8 21 0 5 (by decide)).1]
  have f413 : (M16.1 60 0 44).toInt = (M8.1 60 0 44).toInt := by rw [(hEM16 60 0 44 (by decide)).1]
  have f513 := hI0.bd (k := 0) bd_21_5
  have hn9 : (M.1 0 0 10).toInt = nb := hI0.2.2.2.2.2.2.1
  have hr90 : M16.1 0 0 10 = M16.1 60 0 16 := by rw [(hEM16 0 0 10 (by decide)).1, (hEM8 0 0 10 (by decide)).1, (hEM16 60 0 16 (by decide)).1, (hEM8 60 0 16 (by decide)).1]; exact hrel.1
  have hr91 : M16.1 0 0 9 = M16.1 60 0 0 := by rw [(hEM16 0 0 9 (by decide)).1, (hEM8 0 0 9 (by decide)).1, (hEM16 60 0 0 (by decide)).1, (hEM8 60 0 0 (by decide)).1]; exact hrel.2.1
  have hr92 : M16.1 0 0 11 = M16.1 60 0 21 := by rw [(hEM16 0 0 11 (by decide)).1, (hEM8 0 0 11 (by decide)).1, (hEM16 60 0 21 (by decide)).1, (hEM8 60 0 21 (by decide)).1]; exact hrel.2.2.1
  have hr93 : (∀ j : Nat, j < nb → M16.1 50 j 2 = M16.1 111 0 j) := fun j hj => by rw [(hEM16 50 j 2 (by decide)).1, (hEM8 50 j 2 (by decide)).1, (hEM16 111 0 j (by rw [cd_111]; decide)).1, (hEM8 111 0 j (by rw [cd_111]; decide)).1]; exact hrel.2.2.2.1 j hj
  have hr94 : (∀ j : Nat, j < 4 → M16.1 46 j 1 = M16.1 175 0 j) := by
    intro j hj
    rcases hr7 with ⟨a0, a1, a2, a3, a4⟩ | ⟨a0, a1, a2, a3, a4⟩ | ⟨a0, a1, a2, a3, a4⟩
    · rcases hr15 with ⟨g0, g1, g2, g3, g4⟩ | ⟨g0, g1, g2, g3, g4⟩ | ⟨g0, g1, g2, g3, g4⟩
      · rw [(hEM16 46 j 1 (by decide)).1, a2 j, g2 j, (hEM8 175 0 j (by rw [cd_175]; decide)).1, hrel.2.2.2.2.1 j hj]
      · rw [(hEM16 46 j 1 (by decide)).1, a2 j, g2 j, (hEM8 175 0 j (by rw [cd_175]; decide)).1, hrel.2.2.2.2.1 j hj]
      · exfalso; omega
    · rcases hr15 with ⟨g0, g1, g2, g3, g4⟩ | ⟨g0, g1, g2, g3, g4⟩ | ⟨g0, g1, g2, g3, g4⟩
      · rw [(hEM16 46 j 1 (by decide)).1, a2 j, g2 j, (hEM8 175 0 j (by rw [cd_175]; decide)).1, hrel.2.2.2.2.1 j hj]
      · rw [(hEM16 46 j 1 (by decide)).1, a2 j, g2 j, (hEM8 175 0 j (by rw [cd_175]; decide)).1, hrel.2.2.2.2.1 j hj]
      · exfalso; omega
    · rcases hr15 with ⟨g0, g1, g2, g3, g4⟩ | ⟨g0, g1, g2, g3, g4⟩ | ⟨g0, g1, g2, g3, g4⟩
      · exfalso; omega
      · exfalso; omega
      · rw [(hEM16 46 j 1 (by decide)).1, a2 j, g2 j, (hEM8 175 0 j (by rw [cd_175]; decide)).1, hrel.2.2.2.2.1 j hj]
  have hr95 : (∀ j : Nat, j < 4 → M16.1 46 j 2 = M16.1 176 0 j) := by
    intro j hj
    rcases hr7 with ⟨a0, a1, a2, a3, a4⟩ | ⟨a0, a1, a2, a3, a4⟩ | ⟨a0, a1, a2, a3, a4⟩
    · rcases hr15 with ⟨g0, g1, g2, g3, g4⟩ | ⟨g0, g1, g2, g3, g4⟩ | ⟨g0, g1, g2, g3, g4⟩
      · rw [(hEM16 46 j 2 (by decide)).1, a3 j, g3 j, (hEM8 176 0 j (by rw [cd_176]; decide)).1, hrel.2.2.2.2.2.1 j hj]
      · rw [(hEM16 46 j 2 (by decide)).1, a3 j, g3 j, (hEM8 176 0 j (by rw [cd_176]; decide)).1, hrel.2.2.2.2.2.1 j hj]
      · exfalso; omega
    · rcases hr15 with ⟨g0, g1, g2, g3, g4⟩ | ⟨g0, g1, g2, g3, g4⟩ | ⟨g0, g1, g2, g3, g4⟩
      · rw [(hEM16 46 j 2 (by decide)).1, a3 j, g3 j, (hEM8 176 0 j (by rw [cd_176]; decide)).1, hrel.2.2.2.2.2.1 j hj]
      · rw [(hEM16 46 j 2 (by decide)).1, a3 j, g3 j, (hEM8 176 0 j (by rw [cd_176]; decide)).1, hrel.2.2.2.2.2.1 j hj]
      · exfalso; omega
    · rcases hr15 with ⟨g0, g1, g2, g3, g4⟩ | ⟨g0, g1, g2, g3, g4⟩ | ⟨g0, g1, g2, g3, g4⟩
      · exfalso; omega
      · exfalso; omega
      · rw [(hEM16 46 j 2 (by decide)).1, a3 j, g3 j, (hEM8 176 0 j (by rw [cd_176]; decide)).1, hrel.2.2.2.2.2.1 j hj]
  have hr96 : (∀ j : Nat, j < nb → M16.1 50 j 0 = M16.1 110 0 j) := fun j hj => by rw [(hEM16 50 j 0 (by decide)).1, (hEM8 50 j 0 (by decide)).1, (hEM16 110 0 j (by rw [cd_110]; decide)).1, (hEM8 110 0 j (by rw [cd_110]; decide)).1]; exact hrel.2.2.2.2.2.2.1 j hj
  have hr97 : (∀ j : Nat, j < nb → M16.1 50 j 1 = M16.1 112 0 j) := fun j hj => by rw [(hEM16 50 j 1 (by decide)).1, (hEM8 50 j 1 (by decide)).1, (hEM16 112 0 j (by rw [cd_112]; decide)).1, (hEM8 112 0 j (by rw [cd_112]; decide)).1]; exact hrel.2.2.2.2.2.2.2.1 j hj
  have hr98 : M16.1 1 0 2 = M16.1 60 0 5 := by rw [(hEM16 1 0 2 (by decide)).1, (hEM8 1 0 2 (by decide)).1, (hEM16 60 0 5 (by decide)).1, (hEM8 60 0 5 (by decide)).1]; exact hrel.2.2.2.2.2.2.2.2.1
  have hr99 : M16.1 27 0 1 = M16.1 60 0 52 := by rw [(hEM16 27 0 1 (by decide)).1, (hEM8 27 0 1 (by decide)).1, (hEM16 60 0 52 (by decide)).1, (hEM8 60 0 52 (by decide)).1]; exact hrel.2.2.2.2.2.2.2.2.2.1
  have hr910 : M16.1 27 0 3 = M16.1 60 0 55 := by rw [(hEM16 27 0 3 (by decide)).1, (hEM8 27 0 3 (by decide)).1, (hEM16 60 0 55 (by decide)).1, (hEM8 60 0 55 (by decide)).1]; exact hrel.2.2.2.2.2.2.2.2.2.2.1
  have hr911 : (∀ j : Nat, M16.1 28 0 j = M16.1 151 0 j) := fun j => by rw [(hEM16 28 0 j (by rw [cd_28]; decide)).1, (hEM8 28 0 j (by rw [cd_28]; decide)).1, (hEM16 151 0 j (by rw [cd_151]; decide)).1, (hEM8 151 0 j (by rw [cd_151]; decide)).1]; exact hrel.2.2.2.2.2.2.2.2.2.2.2.1 j
  have hr912 : M16.1 27 0 4 = M16.1 60 0 56 := by rw [(hEM16 27 0 4 (by decide)).1, (hEM8 27 0 4 (by decide)).1, (hEM16 60 0 56 (by decide)).1, (hEM8 60 0 56 (by decide)).1]; exact hrel.2.2.2.2.2.2.2.2.2.2.2.2.1
  have hr913 : M16.1 21 0 5 = M16.1 60 0 44 := by rw [(hEM16 21 0 5 (by decide)).1, (hEM8 21 0 5 (by decide)).1, (hEM16 60 0 44 (by decide)).1, (hEM8 60 0 44 (by decide)).1]; exact hrel.2.2.2.2.2.2.2.2.2.2.2.2.2.1
  have hr914 : (∀ j : Nat, M16.1 22 0 j = M16.1 140 0 j) := fun j => by rw [(hEM16 22 0 j (by rw [cd_22]; decide)).1, (hEM8 22 0 j (by rw [cd_22]; decide)).1, (hEM16 140 0 j (by rw [cd_140]; decide)).1, (hEM8 140 0 j (by rw [cd_140]; decide)).1]; exact hrel.2.2.2.2.2.2.2.2.2.2.2.2.2.2.1 j
  have hr915 : (∀ j : Nat, M16.1 23 0 j = M16.1 141 0 j) := fun j => by rw [(hEM16 23 0 j (by rw [cd_23]; decide)).1, (hEM8 23 0 j (by rw [cd_23]; decide)).1, (hEM16 141 0 j (by rw [cd_141]; decide)).1, (hEM8 141 0 j (by rw [cd_141]; decide)).1]; exact hrel.2.2.2.2.2.2.2.2.2.2.2.2.2.2.2.1 j
  have hr916 : (∀ j : Nat, M16.1 24 0 j = M16.1 142 0 j) := fun j => by rw [(hEM16 24 0 j (by rw [cd_24]; decide)).1, (hEM8 24 0 j (by rw [cd_24]; decide)).1, (hEM16 142 0 j (by rw [cd_142]; decide)).1, (hEM8 142 0 j (by rw [cd_142]; decide)).1]; exact hrel.2.2.2.2.2.2.2.2.2.2.2.2.2.2.2.2.1 j
  have hr917 : (∀ j : Nat, M16.1 25 0 j = M16.1 143 0 j) := fun j => by rw [(hEM16 25 0 j (by rw [cd_25]; decide)).1, (hEM8 25 0 j (by rw [cd_25]; decide)).1, (hEM16 143 0 j (by rw [cd_143]; decide)).1, (hEM8 143 0 j (by rw [cd_143]; decide)).1]; exact hrel.2.2.2.2.2.2.2.2.2.2.2.2.2.2.2.2.2.1 j
  have hr918 : (∀ j : Nat, j < nb → M16.1 50 j 4 = M16.1 115 0 j) := fun j hj => by rw [(hEM16 50 j 4 (by decide)).1, (hEM8 50 j 4 (by decide)).1, (hEM16 115 0 j (by rw [cd_115]; decide)).1, (hEM8 115 0 j (by rw [cd_115]; decide)).1]; exact hrel.2.2.2.2.2.2.2.2.2.2.2.2.2.2.2.2.2.2.1 j hj
  have hs90 : (∀ s i : Nat, s < 4 → i < 40 → M16.1 47 s i = M16.1 177 0 (40 * s + i)) := by
    intro s i hs hi
    rcases hr7 with ⟨a0, a1, a2, a3, a4⟩ | ⟨a0, a1, a2, a3, a4⟩ | ⟨a0, a1, a2, a3, a4⟩
    · rcases hr15 with ⟨g0, g1, g2, g3, g4⟩ | ⟨g0, g1, g2, g3, g4⟩ | ⟨g0, g1, g2, g3, g4⟩
      · rw [(hEM16 47 s i (by rw [cd_47]; decide)).1, a4 s i, g4 (40 * s + i), (hEM8 177 0 (40 * s + i) (by rw [cd_177]; decide)).1]; exact hrel.2.2.2.2.2.2.2.2.2.2.2.2.2.2.2.2.2.2.2.1 s i hs hi
      · rw [(hEM16 47 s i (by rw [cd_47]; decide)).1, a4 s i, g4 (40 * s + i), (hEM8 177 0 (40 * s + i) (by rw [cd_177]; decide)).1]; exact hrel.2.2.2.2.2.2.2.2.2.2.2.2.2.2.2.2.2.2.2.1 s i hs hi
      · exfalso; omega
    · rcases hr15 with ⟨g0, g1, g2, g3, g4⟩ | ⟨g0, g1, g2, g3, g4⟩ | ⟨g0, g1, g2, g3, g4⟩
      · rw [(hEM16 47 s i (by rw [cd_47]; decide)).1, a4 s i, g4 (40 * s + i), (hEM8 177 0 (40 * s + i) (by rw [cd_177]; decide)).1]; exact hrel.2.2.2.2.2.2.2.2.2.2.2.2.2.2.2.2.2.2.2.1 s i hs hi
      · rw [(hEM16 47 s i (by rw [cd_47]; decide)).1, a4 s i, g4 (40 * s + i), (hEM8 177 0 (40 * s + i) (by rw [cd_177]; decide)).1]; exact hrel.2.2.2.2.2.2.2.2.2.2.2.2.2.2.2.2.2.2.2.1 s i hs hi
      · exfalso; omega
    · rcases hr15 with ⟨g0, g1, g2, g3, g4⟩ | ⟨g0, g1, g2, g3, g4⟩ | ⟨g0, g1, g2, g3, g4⟩
      · exfalso; omega
      · exfalso; omega
      · rw [(hEM16 47 s i (by rw [cd_47]; decide)).1, a4 s i, g4 (40 * s + i)]
        have e0 : (x2.toNatClampNeg : Int) = x2.toInt := by rw [Int32.toNatClampNeg]; omega
        by_cases h9 : s = x2.toNatClampNeg
        · rw [if_pos ⟨h9, hi⟩, if_pos (by omega)]
        · rw [if_neg (fun z => h9 z.1), if_neg (by omega), (hEM8 177 0 (40 * s + i) (by rw [cd_177]; decide)).1]; exact hrel.2.2.2.2.2.2.2.2.2.2.2.2.2.2.2.2.2.2.2.1 s i hs hi
  have hs91_1 : rt_WN M8 := rt_WN_same hEM8 (by decide) hrel.2.2.2.2.2.2.2.2.2.2.2.2.2.2.2.2.2.2.2.2.1
  have hs91 : rt_WN M16 := rt_WN_same hEM16 (by decide) hs91_1
  have hs92_1 : rt_PC nb M8 := rt_PC_same hEM8 (by decide) hrel.2.2.2.2.2.2.2.2.2.2.2.2.2.2.2.2.2.2.2.2.2.1
  have hs92 : rt_PC nb M16 := rt_PC_same hEM16 (by decide) hs92_1
  have hs93_1 : rt_FB M8 := rt_FB_same hEM8 (by decide) hrel.2.2.2.2.2.2.2.2.2.2.2.2.2.2.2.2.2.2.2.2.2.2.1
  have hs93 : rt_FB M16 := rt_FB_same hEM16 (by decide) hs93_1
  have hs94 : (∀ j : Nat, j < nb → rt_nkM M16 j = rt_nmM M16 j) := by rw [rt_nkM_same hEM16 (by decide), rt_nkM_same hEM8 (by decide), rt_nmM_same hEM16 (by decide), rt_nmM_same hEM8 (by decide)]; exact hrel.2.2.2.2.2.2.2.2.2.2.2.2.2.2.2.2.2.2.2.2.2.2.2.1
  have hs95_1 : rt_BN nb M8 := rt_BN_eq (Int.le_of_eq (congrArg Int32.toInt (hEM8 0 0 9 (by decide)).1.symm)) (fun j => (hEM8 50 j 2 (by decide)).1) hrel.2.2.2.2.2.2.2.2.2.2.2.2.2.2.2.2.2.2.2.2.2.2.2.2.1
  have hs95 : rt_BN nb M16 := rt_BN_eq (Int.le_of_eq (congrArg Int32.toInt (hEM16 0 0 9 (by decide)).1.symm)) (fun j => (hEM16 50 j 2 (by decide)).1) hs95_1
  have hs96_1 : (∀ k : Nat, (k : Int) < (M8.1 27 0 3).toInt → rt_TR M8 k) := fun k hk => rt_TR_same hEM8 (by decide) (hrel.2.2.2.2.2.2.2.2.2.2.2.2.2.2.2.2.2.2.2.2.2.2.2.2.2.1 k (by rw [← (hEM8 27 0 3 (by decide)).1]; exact hk))
  have hs96 : (∀ k : Nat, (k : Int) < (M16.1 27 0 3).toInt → rt_TR M16 k) := fun k hk => rt_TR_same hEM16 (by decide) (hs96_1 k (by rw [← (hEM16 27 0 3 (by decide)).1]; exact hk))
  have hs97 : (M16.1 27 0 4).toInt < (M16.1 27 0 3).toInt := by rw [(hEM16 27 0 4 (by decide)).1, (hEM8 27 0 4 (by decide)).1, (hEM16 27 0 3 (by decide)).1, (hEM8 27 0 3 (by decide)).1]; exact hrel.2.2.2.2.2.2.2.2.2.2.2.2.2.2.2.2.2.2.2.2.2.2.2.2.2.2.1
  have hs98_1 : (∀ k : Nat, (k : Int) < (M8.1 21 0 5).toInt → (M8.1 22 0 k).toInt < nb) := fun k hk => by rw [(hEM8 22 0 k (by rw [cd_22]; decide)).1]; exact hrel.2.2.2.2.2.2.2.2.2.2.2.2.2.2.2.2.2.2.2.2.2.2.2.2.2.2.2 k (by rw [← (hEM8 21 0 5 (by decide)).1]; exact hk)
  have hs98 : (∀ k : Nat, (k : Int) < (M16.1 21 0 5).toInt → (M16.1 22 0 k).toInt < nb) := fun k hk => by rw [(hEM16 22 0 k (by rw [cd_22]; decide)).1]; exact hs98_1 k (by rw [← (hEM16 21 0 5 (by decide)).1]; exact hk)
  have hrel9 : M16.1 0 0 10 = M16.1 60 0 16 ∧ M16.1 0 0 9 = M16.1 60 0 0 ∧ M16.1 0 0 11 = M16.1 60 0 21 ∧ (∀ j : Nat, j < nb → M16.1 50 j 2 = M16.1 111 0 j) ∧ (∀ j : Nat, j < 4 → M16.1 46 j 1 = M16.1 175 0 j) ∧ (∀ j : Nat, j < 4 → M16.1 46 j 2 = M16.1 176 0 j) ∧ (∀ j : Nat, j < nb → M16.1 50 j 0 = M16.1 110 0 j) ∧ (∀ j : Nat, j < nb → M16.1 50 j 1 = M16.1 112 0 j) ∧ M16.1 1 0 2 = M16.1 60 0 5 ∧ M16.1 27 0 1 = M16.1 60 0 52 ∧ M16.1 27 0 3 = M16.1 60 0 55 ∧ (∀ j : Nat, M16.1 28 0 j = M16.1 151 0 j) ∧ M16.1 27 0 4 = M16.1 60 0 56 ∧ M16.1 21 0 5 = M16.1 60 0 44 ∧ (∀ j : Nat, M16.1 22 0 j = M16.1 140 0 j) ∧ (∀ j : Nat, M16.1 23 0 j = M16.1 141 0 j) ∧ (∀ j : Nat, M16.1 24 0 j = M16.1 142 0 j) ∧ (∀ j : Nat, M16.1 25 0 j = M16.1 143 0 j) ∧ (∀ j : Nat, j < nb → M16.1 50 j 4 = M16.1 115 0 j) ∧ (∀ s i : Nat, s < 4 → i < 40 → M16.1 47 s i = M16.1 177 0 (40 * s + i)) ∧ rt_WN M16 ∧ rt_PC nb M16 ∧ rt_FB M16 ∧ (∀ j : Nat, j < nb → rt_nkM M16 j = rt_nmM M16 j) ∧ rt_BN nb M16 ∧ (∀ k : Nat, (k : Int) < (M16.1 27 0 3).toInt → rt_TR M16 k) ∧ (M16.1 27 0 4).toInt < (M16.1 27 0 3).toInt ∧ (∀ k : Nat, (k : Int) < (M16.1 21 0 5).toInt → (M16.1 22 0 k).toInt < nb) := ⟨hr90, hr91, hr92, hr93, hr94, hr95, hr96, hr97, hr98, hr99, hr910, hr911, hr912, hr913, hr914, hr915, hr916, hr917, hr918, hs90, hs91, hs92, hs93, hs94, hs95, hs96, hs97, hs98⟩
  exact kk M16 _ _ hw hI hS hrel9 ls (lv_sub hl [0, 1, 2, 3] rfl)
set_option maxHeartbeats 1000000 in
set_option maxRecDepth 20000 in
theorem lb_34 {p : Program} {l : Launch} {e : Env} {s : State} {m : MethodId} {below : List Frame} {meth : Method} {c : Code} {D : va_G} {ad : Nat → Nat → Nat} {C : Nat → Nat → ClassId} {nb : Nat} {M : fm_M} {b L : Nat} {xs : Nat → Int32} {H : Heap} {locs : List Loc} {kc sl : Nat} {i : Int32} (C0 : lw_At p s m meth c b L xs) (hkc : kc ≤ 10000) (hsl : sl ≤ 300000) (hc : fm_Cx D ad C nb (fun q : Nat => s.heap.size ≤ q) s) (hw : fm_at D ad C nb M H) (hI : fm_I nb ad M) (hS : va_S (fun q : Nat => s.heap.size ≤ q) s.heap H locs) (hi : 0 ≤ i.toInt ∧ i.toInt + 6 ≤ L) (hL : L ≤ 3072) (hrel : M.1 0 0 10 = M.1 60 0 16 ∧ M.1 0 0 9 = M.1 60 0 0 ∧ M.1 0 0 11 = M.1 60 0 21 ∧ (∀ j : Nat, j < nb → M.1 50 j 2 = M.1 111 0 j) ∧ (∀ j : Nat, j < 4 → M.1 46 j 1 = M.1 175 0 j) ∧ (∀ j : Nat, j < 4 → M.1 46 j 2 = M.1 176 0 j) ∧ (∀ j : Nat, j < nb → M.1 50 j 0 = M.1 110 0 j) ∧ (∀ j : Nat, j < nb → M.1 50 j 1 = M.1 112 0 j) ∧ M.1 1 0 2 = M.1 60 0 5 ∧ M.1 27 0 1 = M.1 60 0 52 ∧ M.1 27 0 3 = M.1 60 0 55 ∧ (∀ j : Nat, M.1 28 0 j = M.1 151 0 j) ∧ M.1 27 0 4 = M.1 60 0 56 ∧ M.1 21 0 5 = M.1 60 0 44 ∧ (∀ j : Nat, M.1 22 0 j = M.1 140 0 j) ∧ (∀ j : Nat, M.1 23 0 j = M.1 141 0 j) ∧ (∀ j : Nat, M.1 24 0 j = M.1 142 0 j) ∧ (∀ j : Nat, M.1 25 0 j = M.1 143 0 j) ∧ (∀ j : Nat, j < nb → M.1 50 j 4 = M.1 115 0 j) ∧ (∀ s i : Nat, s < 4 → i < 40 → M.1 47 s i = M.1 177 0 (40 * s + i)) ∧ rt_WN M ∧ rt_PC nb M ∧ rt_FB M ∧ (∀ j : Nat, j < nb → rt_nkM M j = rt_nmM M j) ∧ rt_BN nb M ∧ (∀ k : Nat, (k : Int) < (M.1 27 0 3).toInt → rt_TR M k) ∧ (M.1 27 0 4).toInt < (M.1 27 0 3).toInt ∧ (∀ k : Nat, (k : Int) < (M.1 21 0 5).toInt → (M.1 22 0 k).toInt < nb)) (kk : ∀ (M1 : fm_M) (H1 : Heap) (locs1 : List Loc), fm_at D ad C nb M1 H1 → fm_I nb ad M1 → va_S (fun q : Nat => s.heap.size ≤ q) s.heap H1 locs1 → M1.1 0 0 10 = M1.1 60 0 16 ∧ M1.1 0 0 9 = M1.1 60 0 0 ∧ M1.1 0 0 11 = M1.1 60 0 21 ∧ (∀ j : Nat, j < nb → M1.1 50 j 2 = M1.1 111 0 j) ∧ (∀ j : Nat, j < 4 → M1.1 46 j 1 = M1.1 175 0 j) ∧ (∀ j : Nat, j < 4 → M1.1 46 j 2 = M1.1 176 0 j) ∧ (∀ j : Nat, j < nb → M1.1 50 j 0 = M1.1 110 0 j) ∧ (∀ j : Nat, j < nb → M1.1 50 j 1 = M1.1 112 0 j) ∧ M1.1 1 0 2 = M1.1 60 0 5 ∧ M1.1 27 0 1 = M1.1 60 0 52 ∧ M1.1 27 0 3 = M1.1 60 0 55 ∧ (∀ j : Nat, M1.1 28 0 j = M1.1 151 0 j) ∧ M1.1 27 0 4 = M1.1 60 0 56 ∧ M1.1 21 0 5 = M1.1 60 0 44 ∧ (∀ j : Nat, M1.1 22 0 j = M1.1 140 0 j) ∧ (∀ j : Nat, M1.1 23 0 j = M1.1 141 0 j) ∧ (∀ j : Nat, M1.1 24 0 j = M1.1 142 0 j) ∧ (∀ j : Nat, M1.1 25 0 j = M1.1 143 0 j) ∧ (∀ j : Nat, j < nb → M1.1 50 j 4 = M1.1 115 0 j) ∧ (∀ s i : Nat, s < 4 → i < 40 → M1.1 47 s i = M1.1 177 0 (40 * s + i)) ∧ rt_WN M1 ∧ rt_PC nb M1 ∧ rt_FB M1 ∧ (∀ j : Nat, j < nb → rt_nkM M1 j = rt_nmM M1 j) ∧ rt_BN nb M1 ∧ (∀ k : Nat, (k : Int) < (M1.1 27 0 3).toInt → rt_TR M1 k) ∧ (M1.1 27 0 4).toInt < (M1.1 27 0 3).toInt ∧ (∀ k : Nat, (k : Int) < (M1.1 21 0 5).toInt → (M1.1 22 0 k).toInt < nb) → ∀ ls : Array Slot, lv_has ls 4 [(3, .int i), (2, .ref (ad 60 0)), (1, .ref (ad 0 0)), (0, .ref b)] → W p l e room_1 s m #[Value.ref b] below meth c H1 locs1 kc sl (lw_Z below #[Value.ref b] s) (F0 m 1835 ls [])) (ls : Array Slot) (hl : lv_has ls 4 [(3, .int i), (2, .ref (ad 60 0)), (1, .ref (ad 0 0)), (0, .ref b)]) : W p l e room_1 s m #[Value.ref b] below meth c H locs kc sl (lw_Z below #[Value.ref b] s) (F0 m 1633 ls []) := by
  obtain ⟨hx, hb, hr, hml, hown, hts, hX, hbl, hlocks, hgv⟩ := id C0
  have hown : s.vm.findClass RL = some m.cls := hown
  have hb : c.code = cL_law := hb
  have hbA : ¬ (fun q : Nat => s.heap.size ≤ q) b := Nat.not_le.mpr hbl
  have hk1 : kc + 0 ≤ room_1.cells := by show kc + 0 ≤ 600000; omega
  have hs1 : sl + 0 ≤ room_1.slots := by show sl + 0 ≤ 7302250; omega
  have hI0 := hI
  have hPC : rt_PC nb M := hrel.2.2.2.2.2.2.2.2.2.2.2.2.2.2.2.2.2.2.2.2.2.1
  have hCI : rt_CI nb M := hPC.1
  have hTI : rt_TI nb M := hPC.2.1
  have hBN : rt_BN nb M := hrel.2.2.2.2.2.2.2.2.2.2.2.2.2.2.2.2.2.2.2.2.2.2.2.2.1
  refine lv_aload_n hx hb dL_law_1633 rfl (lv_at hl 2 rfl) ?_
  refine lv_aload_n hx hb dL_law_1634 rfl (lv_at hl 3 rfl) ?_
  refine lv_iload_n hx hb dL_law_1635 rfl (lv_at hl 0 rfl) ?_
  refine lv_iconst (v := 1) hx hb dL_law_1636 (by decide) ?_
  refine fx_iadd hx hb dL_law_1637 rfl zk_1 (by omega) (fun y1 ey1 ty1 => ?_)
  refine va_sld hx hb hX hbl hbA hS (fm_in (by omega)) dL_law_1638 ?_
  refine lv_topi (fun x2 ex2 => ?_)
  refine lv_aload_n hx hb dL_law_1639 rfl (lv_at hl 3 rfl) ?_
  refine lv_iload_n hx hb dL_law_1640 rfl (lv_at hl 0 rfl) ?_
  refine lv_iconst (v := 2) hx hb dL_law_1641 (by decide) ?_
  refine fx_iadd hx hb dL_law_1642 rfl zk_2 (by omega) (fun y3 ey3 ty3 => ?_)
  refine va_sld hx hb hX hbl hbA hS (fm_in (by omega)) dL_law_1643 ?_
  refine lv_topi (fun x4 ex4 => ?_)
  refine lv_aload_n hx hb dL_law_1644 rfl (lv_at hl 3 rfl) ?_
  refine lv_iload_n hx hb dL_law_1645 rfl (lv_at hl 0 rfl) ?_
  refine lv_iconst (v := 3) hx hb dL_law_1646 (by decide) ?_
  refine fx_iadd hx hb dL_law_1647 rfl zk_3 (by omega) (fun y5 ey5 ty5 => ?_)
  refine va_sld hx hb hX hbl hbA hS (fm_in (by omega)) dL_law_1648 ?_
  refine lv_topi (fun x6 ex6 => ?_)
  refine fm_ci (va_runV (As := [.int x2, .int x4, .int x6]) (rest := []) ⟨hx, hb, hml, hown, hts⟩ (fc_X11_cell l D ad C nb M hI x2 x4 x6) (cwV 3 hts gL_law_X11_cell rfl rfl rfl (by decide +kernel) ⟨Nat.le_of_ble_eq_true rfl, Nat.le_of_ble_eq_true rfl⟩) (fm_preV hc hw hS kl_0 sh_0 rfl) rfl rfl hl.1 rfl (lv_room (Nat.le_of_ble_eq_true rfl)) dL_law_1649 ⟨hk1, hs1⟩) hS hc (fun r7 M8 H locs hr7 hw hS => ?_)
  obtain ⟨hI, hEM8, hr7⟩ := hr7
  refine lv_pop hx hb dL_law_1652 rfl ?_
  refine lv_aload_n hx hb dL_law_1653 rfl (lv_at hl 1 rfl) ?_
  refine lv_aload_n hx hb dL_law_1654 rfl (lv_at hl 3 rfl) ?_
  refine lv_iload_n hx hb dL_law_1655 rfl (lv_at hl 0 rfl) ?_
  refine lv_iconst (v := 1) hx hb dL_law_1656 (by decide) ?_
  refine fx_iadd hx hb dL_law_1657 rfl zk_1 (by omega) (fun y9 ey9 ty9 => ?_)
  refine va_sld hx hb hX hbl hbA hS (fm_in (by omega)) dL_law_1658 ?_
  refine lv_topi (fun x10 ex10 => ?_)
  have qx10 : x2 = x10 := by rw [ex10, ex2, ey9, ey1]
  clear ex10
  subst qx10
  refine lv_aload_n hx hb dL_law_1659 rfl (lv_at hl 3 rfl) ?_
  refine lv_iload_n hx hb dL_law_1660 rfl (lv_at hl 0 rfl) ?_
  refine lv_iconst (v := 2) hx hb dL_law_1661 (by decide) ?_
  refine fx_iadd hx hb dL_law_1662 rfl zk_2 (by omega) (fun y11 ey11 ty11 => ?_)
  refine va_sld hx hb hX hbl hbA hS (fm_in (by omega)) dL_law_1663 ?_
  refine lv_topi (fun x12 ex12 => ?_)
  have qx12 : x4 = x12 := by rw [ex12, ex4, ey11, ey3]
  clear ex12
  subst qx12
  refine lv_aload_n hx hb dL_law_1664 rfl (lv_at hl 3 rfl) ?_
  refine lv_iload_n hx hb dL_law_1665 rfl (lv_at hl 0 rfl) ?_
  refine lv_iconst (v := 3) hx hb dL_law_1666 (by decide) ?_
  refine fx_iadd hx hb dL_law_1667 rfl zk_3 (by omega) (fun y13 ey13 ty13 => ?_)
  refine va_sld hx hb hX hbl hbA hS (fm_in (by omega)) dL_law_1668 ?_
  refine lv_topi (fun x14 ex14 => ?_)
  have qx14 : x6 = x14 := by rw [ex14, ex6, ey13, ey5]
  clear ex14
  subst qx14
  refine fm_ci (va_runV (As := [.int x2, .int x4, .int x6]) (rest := []) ⟨hx, hb, hml, hown, hts⟩ (fc_X12_cell l D ad C nb M8 hI x2 x4 x6) (cwV 3 hts gL_law_X12_cell rfl rfl rfl (by decide +kernel) ⟨Nat.le_of_ble_eq_true rfl, Nat.le_of_ble_eq_true rfl⟩) (fm_preV hc hw hS kl_60 sh_60 rfl) rfl rfl hl.1 rfl (lv_room (Nat.le_of_ble_eq_true rfl)) dL_law_1669 ⟨hk1, hs1⟩) hS hc (fun r15 M16 H locs hr15 hw hS => ?_)
  obtain ⟨hI, hEM16, hr15⟩ := hr15
  refine lv_pop hx hb dL_law_1672 rfl ?_
  refine lv_goto (tgt := 1835) hx hb dL_law_1673 (by decide) ?_
  have f10 : (M8.1 60 0 16).toInt = (M.1 0 0 10).toInt := by rw [(hEM8 60 0 16 (by decide)).1, hrel.1]
  have f20 : (M16.1 0 0 10).toInt = (M8.1 0 0 10).toInt := by rw [(hEM16 0 0 10 (by decide)).1]
  have f30 : (M8.1 0 0 10).toInt = (M.1 0 0 10).toInt := by rw [(hEM8 0 0 10 (by decide)).1]
  have f40 : (M16.1 60 0 16).toInt = (M8.1 60 0 16).toInt := by rw [(hEM16 60 0 16 (by decide)).1]
  have f50 := hI0.bd (k := 0) bd_0_10
  have f11 : (M8.1 60 0 0).toInt = (M.1 0 0 9).toInt := by rw [(hEM8 60 0 0 (by decide)).1, hrel.2.1]
  have f21 : (M16.1 0 0 9).toInt = (M8.1 0 0 9).toInt := by rw [(hEM16 0 0 9 (by decide)).1]
  have f31 : (M8.1 0 0 9).toInt = (M.1 0 0 9).toInt := by rw [(hEM8 0 0 9 (by decide)).1]
  have f41 : (M16.1 60 0 0).toInt = (M8.1 60 0 0).toInt := by rw [(hEM16 60 0 0 (by decide)).1]
  have f51 := hI0.bd (k := 0) bd_0_9
  have f12 : (M8.1 60 0 21).toInt = (M.1 0 0 11).toInt := by rw [(hEM8 60 0 21 (by decide)).1, hrel.2.2.1]
  have f22 : (M16.1 0 0 11).toInt = (M8.1 0 0 11).toInt := by rw [(hEM16 0 0 11 (by decide)).1]
  have f32 : (M8.1 0 0 11).toInt = (M.1 0 0 11).toInt := by rw [(hEM8 0 0 11 (by decide)).1]
  have f42 : (M16.1 60 0 21).toInt = (M8.1 60 0 21).toInt := by rw [(hEM16 60 0 21 (by decide)).1]
  have f52 := hI0.bd (k := 0) bd_0_11
  have f18 : (M8.1 60 0 5).toInt = (M.1 1 0 2).toInt := by rw [(hEM8 60 0 5 (by decide)).1, hrel.2.2.2.2.2.2.2.2.1]
  have f28 : (M16.1 1 0 2).toInt = (M8.1 1 0 2).toInt := by rw [(hEM16 1 0 2 (by decide)).1]
  have f38 : (M8.1 1 0 2).toInt = (M.1 1 0 2).toInt := by rw [(hEM8 1 0 2 (by decide)).1]
  have f48 : (M16.1 60 0 5).toInt = (M8.1 60 0 5).toInt := by rw [(hEM16 60 0 5 (by decide)).1]
  have f58 := hI0.bd (k := 0) bd_1_2
  have f19 : (M8.1 60 0 52).toInt = (M.1 27 0 1).toInt := by rw [(hEM8 60 0 52 (by decide)).1, hrel.2.2.2.2.2.2.2.2.2.1]
  have f29 : (M16.1 27 0 1).toInt = (M8.1 27 0 1).toInt := by rw [(hEM16 27 0 1 (by decide)).1]
  have f39 : (M8.1 27 0 1).toInt = (M.1 27 0 1).toInt := by rw [(hEM8 27 0 1 (by decide)).1]
  have f49 : (M16.1 60 0 52).toInt = (M8.1 60 0 52).toInt := by rw [(hEM16 60 0 52 (by decide)).1]
  have f59 := hI0.bd (k := 0) bd_27_1
  have f110 : (M8.1 60 0 55).toInt = (M.1 27 0 3).toInt := by rw [(hEM8 60 0 55 (by decide)).1, hrel.2.2.2.2.2.2.2.2.2.2.1]
  have f210 : (M16.1 27 0 3).toInt = (M8.1 27 0 3).toInt := by rw [(hEM16 27 0 3 (by decide)).1]
  have f310 : (M8.1 27 0 3).toInt = (M.1 27 0 3).toInt := by rw [(hEM8 27 0 3 (by decide)).1]
  have f410 : (M16.1 60 0 55).toInt = (M8.1 60 0 55).toInt := by rw [(hEM16 60 0 55 (by decide)).1]
  have f510 := hI0.bd (k := 0) bd_27_3
  have f112 : (M8.1 60 0 56).toInt = (M.1 27 0 4).toInt := by rw [(hEM8 60 0 56 (by decide)).1, hrel.2.2.2.2.2.2.2.2.2.2.2.2.1]
  have f212 : (M16.1 27 0 4).toInt = (M8.1 27 0 4).toInt := by rw [(hEM16 27 0 4 (by decide)).1]
  have f312 : (M8.1 27 0 4).toInt = (M.1 27 0 4).toInt := by rw [(hEM8 27 0 4 (by decide)).1]
  have f412 : (M16.1 60 0 56).toInt = (M8.1 60 0 56).toInt := by rw [(hEM16 60 0 56 (by decide)).1]
  have f512 := hI0.bd (k := 0) bd_27_4
  have f113 : (M8.1 60 0 44).toInt = (M.1 21 0 5).toInt := by rw [(hEM8 60 0 44 (by decide)).1, hrel.2.2.2.2.2.2.2.2.2.2.2.2.2.1]
  have f213 : (M16.1 21 0 5).toInt = (M8.1 21 0 5).toInt := by rw [(hEM16 21 0 5 (by decide)).1]
  have f313 : (M8.1 21 0 5).toInt = (M.1 21 0 5).toInt := by rw [(hEM8 21 0 5 (by decide)).1]
  have f413 : (M16.1 60 0 44).toInt = (M8.1 60 0 44).toInt := by rw [(hEM16 60 0 44 (by decide)).1]
  have f513 := hI0.bd (k := 0) bd_21_5
  have hn9 : (M.1 0 0 10).toInt = nb := hI0.2.2.2.2.2.2.1
  have g4p0 : ¬ (0 ≤ x2.toInt ∧ x2.toInt < 4) ∨ (M8.1 175 0 x2.toNatClampNeg).toInt = (M.1 46 x2.toNatClampNeg 1).toInt := by
    by_cases h9 : 0 ≤ x2.toInt ∧ x2.toInt < 4
    · exact Or.inr (by rw [(hEM8 175 0 x2.toNatClampNeg (by rw [cd_175]; decide)).1, hrel.2.2.2.2.1 _ (zi_cln h9)])
    · exact Or.inl h9
  have g5p0 : ¬ (0 ≤ x2.toInt ∧ x2.toInt < 4) ∨ (M8.1 176 0 x2.toNatClampNeg).toInt = (M.1 46 x2.toNatClampNeg 2).toInt := by
    by_cases h9 : 0 ≤ x2.toInt ∧ x2.toInt < 4
    · exact Or.inr (by rw [(hEM8 176 0 x2.toNatClampNeg (by rw [cd_176]; decide)).1, hrel.2.2.2.2.2.1 _ (zi_cln h9)])
    · exact Or.inl h9
  have hr90 : M16.1 0 0 10 = M16.1 60 0 16 := by rw [(hEM16 0 0 10 (by decide)).1, (hEM8 0 0 10 (by decide)).1, (hEM16 60 0 16 (by decide)).1, (hEM8 60 0 16 (by decide)).1]; exact hrel.1
  have hr91 : M16.1 0 0 9 = M16.1 60 0 0 := by rw [(hEM16 0 0 9 (by decide)).1, (hEM8 0 0 9 (by decide)).1, (hEM16 60 0 0 (by decide)).1, (hEM8 60 0 0 (by decide)).1]; exact hrel.2.1
  have hr92 : M16.1 0 0 11 = M16.1 60 0 21 := by rw [(hEM16 0 0 11 (by decide)).1, (hEM8 0 0 11 (by decide)).1, (hEM16 60 0 21 (by decide)).1, (hEM8 60 0 21 (by decide)).1]; exact hrel.2.2.1
  have hr93 : (∀ j : Nat, j < nb → M16.1 50 j 2 = M16.1 111 0 j) := fun j hj => by rw [(hEM16 50 j 2 (by decide)).1, (hEM8 50 j 2 (by decide)).1, (hEM16 111 0 j (by rw [cd_111]; decide)).1, (hEM8 111 0 j (by rw [cd_111]; decide)).1]; exact hrel.2.2.2.1 j hj
  have hr94 : (∀ j : Nat, j < 4 → M16.1 46 j 1 = M16.1 175 0 j) := fun j hj => by rw [(hEM16 46 j 1 (by decide)).1, (hEM8 46 j 1 (by decide)).1, (hEM16 175 0 j (by rw [cd_175]; decide)).1, (hEM8 175 0 j (by rw [cd_175]; decide)).1]; exact hrel.2.2.2.2.1 j hj
  have hr95 : (∀ j : Nat, j < 4 → M16.1 46 j 2 = M16.1 176 0 j) := fun j hj => by rw [(hEM16 46 j 2 (by decide)).1, (hEM8 46 j 2 (by decide)).1, (hEM16 176 0 j (by rw [cd_176]; decide)).1, (hEM8 176 0 j (by rw [cd_176]; decide)).1]; exact hrel.2.2.2.2.2.1 j hj
  have hr96 : (∀ j : Nat, j < nb → M16.1 50 j 0 = M16.1 110 0 j) := fun j hj => by rw [(hEM16 50 j 0 (by decide)).1, (hEM8 50 j 0 (by decide)).1, (hEM16 110 0 j (by rw [cd_110]; decide)).1, (hEM8 110 0 j (by rw [cd_110]; decide)).1]; exact hrel.2.2.2.2.2.2.1 j hj
  have hr97 : (∀ j : Nat, j < nb → M16.1 50 j 1 = M16.1 112 0 j) := fun j hj => by rw [(hEM16 50 j 1 (by decide)).1, (hEM8 50 j 1 (by decide)).1, (hEM16 112 0 j (by rw [cd_112]; decide)).1, (hEM8 112 0 j (by rw [cd_112]; decide)).1]; exact hrel.2.2.2.2.2.2.2.1 j hj
  have hr98 : M16.1 1 0 2 = M16.1 60 0 5 := by rw [(hEM16 1 0 2 (by decide)).1, (hEM8 1 0 2 (by decide)).1, (hEM16 60 0 5 (by decide)).1, (hEM8 60 0 5 (by decide)).1]; exact hrel.2.2.2.2.2.2.2.2.1
  have hr99 : M16.1 27 0 1 = M16.1 60 0 52 := by rw [(hEM16 27 0 1 (by decide)).1, (hEM8 27 0 1 (by decide)).1, (hEM16 60 0 52 (by decide)).1, (hEM8 60 0 52 (by decide)).1]; exact hrel.2.2.2.2.2.2.2.2.2.1
  have hr910 : M16.1 27 0 3 = M16.1 60 0 55 := by rw [(hEM16 27 0 3 (by decide)).1, (hEM8 27 0 3 (by decide)).1, (hEM16 60 0 55 (by decide)).1, (hEM8 60 0 55 (by decide)).1]; exact hrel.2.2.2.2.2.2.2.2.2.2.1
  have hr911 : (∀ j : Nat, M16.1 28 0 j = M16.1 151 0 j) := fun j => by rw [(hEM16 28 0 j (by rw [cd_28]; decide)).1, (hEM8 28 0 j (by rw [cd_28]; decide)).1, (hEM16 151 0 j (by rw [cd_151]; decide)).1, (hEM8 151 0 j (by rw [cd_151]; decide)).1]; exact hrel.2.2.2.2.2.2.2.2.2.2.2.1 j
  have hr912 : M16.1 27 0 4 = M16.1 60 0 56 := by rw [(hEM16 27 0 4 (by decide)).1, (hEM8 27 0 4 (by decide)).1, (hEM16 60 0 56 (by decide)).1, (hEM8 60 0 56 (by decide)).1]; exact hrel.2.2.2.2.2.2.2.2.2.2.2.2.1
  have hr913 : M16.1 21 0 5 = M16.1 60 0 44 := by rw [(hEM16 21 0 5 (by decide)).1, (hEM8 21 0 5 (by decide)).1, (hEM16 60 0 44 (by decide)).1, (hEM8 60 0 44 (by decide)).1]; exact hrel.2.2.2.2.2.2.2.2.2.2.2.2.2.1
  have hr914 : (∀ j : Nat, M16.1 22 0 j = M16.1 140 0 j) := fun j => by rw [(hEM16 22 0 j (by rw [cd_22]; decide)).1, (hEM8 22 0 j (by rw [cd_22]; decide)).1, (hEM16 140 0 j (by rw [cd_140]; decide)).1, (hEM8 140 0 j (by rw [cd_140]; decide)).1]; exact hrel.2.2.2.2.2.2.2.2.2.2.2.2.2.2.1 j
  have hr915 : (∀ j : Nat, M16.1 23 0 j = M16.1 141 0 j) := fun j => by rw [(hEM16 23 0 j (by rw [cd_23]; decide)).1, (hEM8 23 0 j (by rw [cd_23]; decide)).1, (hEM16 141 0 j (by rw [cd_141]; decide)).1, (hEM8 141 0 j (by rw [cd_141]; decide)).1]; exact hrel.2.2.2.2.2.2.2.2.2.2.2.2.2.2.2.1 j
  have hr916 : (∀ j : Nat, M16.1 24 0 j = M16.1 142 0 j) := fun j => by rw [(hEM16 24 0 j (by rw [cd_24]; decide)).1, (hEM8 24 0 j (by rw [cd_24]; decide)).1, (hEM16 142 0 j (by rw [cd_142]; decide)).1, (hEM8 142 0 j (by rw [cd_142]; decide)).1]; exact hrel.2.2.2.2.2.2.2.2.2.2.2.2.2.2.2.2.1 j
  have hr917 : (∀ j : Nat, M16.1 25 0 j = M16.1 143 0 j) := fun j => by rw [(hEM16 25 0 j (by rw [cd_25]; decide)).1, (hEM8 25 0 j (by rw [cd_25]; decide)).1, (hEM16 143 0 j (by rw [cd_143]; decide)).1, (hEM8 143 0 j (by rw [cd_143]; decide)).1]; exact hrel.2.2.2.2.2.2.2.2.2.2.2.2.2.2.2.2.2.1 j
  have hr918 : (∀ j : Nat, j < nb → M16.1 50 j 4 = M16.1 115 0 j) := fun j hj => by rw [(hEM16 50 j 4 (by decide)).1, (hEM8 50 j 4 (by decide)).1, (hEM16 115 0 j (by rw [cd_115]; decide)).1, (hEM8 115 0 j (by rw [cd_115]; decide)).1]; exact hrel.2.2.2.2.2.2.2.2.2.2.2.2.2.2.2.2.2.2.1 j hj
  have hs90 : (∀ s i : Nat, s < 4 → i < 40 → M16.1 47 s i = M16.1 177 0 (40 * s + i)) := by
    intro s i hs hi
    rcases hr7 with ⟨a0, a1, a2⟩ | ⟨a0, a1, a2, a3⟩ | ⟨a0, a1, a2, a3, a4⟩ | ⟨a0, a1, a2, a3, a4⟩
    · rcases hr15 with ⟨g0, g1, g2⟩ | ⟨g0, g1, g2, g3⟩ | ⟨g0, g1, g2, g3, g4⟩ | ⟨g0, g1, g2, g3, g4⟩
      · rw [(hEM16 47 s i (by rw [cd_47]; decide)).1, a2 s i, g2 (40 * s + i), (hEM8 177 0 (40 * s + i) (by rw [cd_177]; decide)).1]; exact hrel.2.2.2.2.2.2.2.2.2.2.2.2.2.2.2.2.2.2.2.1 s i hs hi
      · rw [(hEM16 47 s i (by rw [cd_47]; decide)).1, a2 s i, g3 (40 * s + i), (hEM8 177 0 (40 * s + i) (by rw [cd_177]; decide)).1]; exact hrel.2.2.2.2.2.2.2.2.2.2.2.2.2.2.2.2.2.2.2.1 s i hs hi
      · rw [(hEM16 47 s i (by rw [cd_47]; decide)).1, a2 s i, g4 (40 * s + i), (hEM8 177 0 (40 * s + i) (by rw [cd_177]; decide)).1]; exact hrel.2.2.2.2.2.2.2.2.2.2.2.2.2.2.2.2.2.2.2.1 s i hs hi
      · exfalso; omega
    · rcases hr15 with ⟨g0, g1, g2⟩ | ⟨g0, g1, g2, g3⟩ | ⟨g0, g1, g2, g3, g4⟩ | ⟨g0, g1, g2, g3, g4⟩
      · rw [(hEM16 47 s i (by rw [cd_47]; decide)).1, a3 s i, g2 (40 * s + i), (hEM8 177 0 (40 * s + i) (by rw [cd_177]; decide)).1]; exact hrel.2.2.2.2.2.2.2.2.2.2.2.2.2.2.2.2.2.2.2.1 s i hs hi
      · rw [(hEM16 47 s i (by rw [cd_47]; decide)).1, a3 s i, g3 (40 * s + i), (hEM8 177 0 (40 * s + i) (by rw [cd_177]; decide)).1]; exact hrel.2.2.2.2.2.2.2.2.2.2.2.2.2.2.2.2.2.2.2.1 s i hs hi
      · rw [(hEM16 47 s i (by rw [cd_47]; decide)).1, a3 s i, g4 (40 * s + i), (hEM8 177 0 (40 * s + i) (by rw [cd_177]; decide)).1]; exact hrel.2.2.2.2.2.2.2.2.2.2.2.2.2.2.2.2.2.2.2.1 s i hs hi
      · exfalso; omega
    · rcases hr15 with ⟨g0, g1, g2⟩ | ⟨g0, g1, g2, g3⟩ | ⟨g0, g1, g2, g3, g4⟩ | ⟨g0, g1, g2, g3, g4⟩
      · rw [(hEM16 47 s i (by rw [cd_47]; decide)).1, a4 s i, g2 (40 * s + i), (hEM8 177 0 (40 * s + i) (by rw [cd_177]; decide)).1]; exact hrel.2.2.2.2.2.2.2.2.2.2.2.2.2.2.2.2.2.2.2.1 s i hs hi
      · rw [(hEM16 47 s i (by rw [cd_47]; decide)).1, a4 s i, g3 (40 * s + i), (hEM8 177 0 (40 * s + i) (by rw [cd_177]; decide)).1]; exact hrel.2.2.2.2.2.2.2.2.2.2.2.2.2.2.2.2.2.2.2.1 s i hs hi
      · rw [(hEM16 47 s i (by rw [cd_47]; decide)).1, a4 s i, g4 (40 * s + i), (hEM8 177 0 (40 * s + i) (by rw [cd_177]; decide)).1]; exact hrel.2.2.2.2.2.2.2.2.2.2.2.2.2.2.2.2.2.2.2.1 s i hs hi
      · exfalso; omega
    · rcases hr15 with ⟨g0, g1, g2⟩ | ⟨g0, g1, g2, g3⟩ | ⟨g0, g1, g2, g3, g4⟩ | ⟨g0, g1, g2, g3, g4⟩
      · exfalso; omega
      · exfalso; omega
      · exfalso; omega
      · rw [(hEM16 47 s i (by rw [cd_47]; decide)).1, a4 s i, g4 (40 * s + i)]
        have e0 : (x2.toNatClampNeg : Int) = x2.toInt := by rw [Int32.toNatClampNeg]; omega
        have e1 : (x4.toNatClampNeg : Int) = x4.toInt := by rw [Int32.toNatClampNeg]; omega
        have b9 := hI0.bd (a := 46) (k := x2.toNatClampNeg) bd_46_2
        have e2 : M8.1 175 0 x2.toNatClampNeg = M.1 46 x2.toNatClampNeg 1 := by rw [(hEM8 175 0 x2.toNatClampNeg (by rw [cd_175]; decide)).1, hrel.2.2.2.2.1 x2.toNatClampNeg (by omega)]
        by_cases h9 : s = x2.toNatClampNeg ∧ i = x4.toNatClampNeg
        · rw [if_pos h9, if_pos (by omega), e2]
        · rw [if_neg h9, if_neg (by omega), (hEM8 177 0 (40 * s + i) (by rw [cd_177]; decide)).1]; exact hrel.2.2.2.2.2.2.2.2.2.2.2.2.2.2.2.2.2.2.2.1 s i hs hi
  have hs91_1 : rt_WN M8 := rt_WN_same hEM8 (by decide) hrel.2.2.2.2.2.2.2.2.2.2.2.2.2.2.2.2.2.2.2.2.1
  have hs91 : rt_WN M16 := rt_WN_same hEM16 (by decide) hs91_1
  have hs92_1 : rt_PC nb M8 := rt_PC_same hEM8 (by decide) hrel.2.2.2.2.2.2.2.2.2.2.2.2.2.2.2.2.2.2.2.2.2.1
  have hs92 : rt_PC nb M16 := rt_PC_same hEM16 (by decide) hs92_1
  have hs93_1 : rt_FB M8 := rt_FB_same hEM8 (by decide) hrel.2.2.2.2.2.2.2.2.2.2.2.2.2.2.2.2.2.2.2.2.2.2.1
  have hs93 : rt_FB M16 := rt_FB_same hEM16 (by decide) hs93_1
  have hs94 : (∀ j : Nat, j < nb → rt_nkM M16 j = rt_nmM M16 j) := by rw [rt_nkM_same hEM16 (by decide), rt_nkM_same hEM8 (by decide), rt_nmM_same hEM16 (by decide), rt_nmM_same hEM8 (by decide)]; exact hrel.2.2.2.2.2.2.2.2.2.2.2.2.2.2.2.2.2.2.2.2.2.2.2.1
  have hs95_1 : rt_BN nb M8 := rt_BN_eq (Int.le_of_eq (congrArg Int32.toInt (hEM8 0 0 9 (by decide)).1.symm)) (fun j => (hEM8 50 j 2 (by decide)).1) hrel.2.2.2.2.2.2.2.2.2.2.2.2.2.2.2.2.2.2.2.2.2.2.2.2.1
  have hs95 : rt_BN nb M16 := rt_BN_eq (Int.le_of_eq (congrArg Int32.toInt (hEM16 0 0 9 (by decide)).1.symm)) (fun j => (hEM16 50 j 2 (by decide)).1) hs95_1
  have hs96_1 : (∀ k : Nat, (k : Int) < (M8.1 27 0 3).toInt → rt_TR M8 k) := fun k hk => rt_TR_same hEM8 (by decide) (hrel.2.2.2.2.2.2.2.2.2.2.2.2.2.2.2.2.2.2.2.2.2.2.2.2.2.1 k (by rw [← (hEM8 27 0 3 (by decide)).1]; exact hk))
  have hs96 : (∀ k : Nat, (k : Int) < (M16.1 27 0 3).toInt → rt_TR M16 k) := fun k hk => rt_TR_same hEM16 (by decide) (hs96_1 k (by rw [← (hEM16 27 0 3 (by decide)).1]; exact hk))
  have hs97 : (M16.1 27 0 4).toInt < (M16.1 27 0 3).toInt := by rw [(hEM16 27 0 4 (by decide)).1, (hEM8 27 0 4 (by decide)).1, (hEM16 27 0 3 (by decide)).1, (hEM8 27 0 3 (by decide)).1]; exact hrel.2.2.2.2.2.2.2.2.2.2.2.2.2.2.2.2.2.2.2.2.2.2.2.2.2.2.1
  have hs98_1 : (∀ k : Nat, (k : Int) < (M8.1 21 0 5).toInt → (M8.1 22 0 k).toInt < nb) := fun k hk => by rw [(hEM8 22 0 k (by rw [cd_22]; decide)).1]; exact hrel.2.2.2.2.2.2.2.2.2.2.2.2.2.2.2.2.2.2.2.2.2.2.2.2.2.2.2 k (by rw [← (hEM8 21 0 5 (by decide)).1]; exact hk)
  have hs98 : (∀ k : Nat, (k : Int) < (M16.1 21 0 5).toInt → (M16.1 22 0 k).toInt < nb) := fun k hk => by rw [(hEM16 22 0 k (by rw [cd_22]; decide)).1]; exact hs98_1 k (by rw [← (hEM16 21 0 5 (by decide)).1]; exact hk)
  have hrel9 : M16.1 0 0 10 = M16.1 60 0 16 ∧ M16.1 0 0 9 = M16.1 60 0 0 ∧ M16.1 0 0 11 = M16.1 60 0 21 ∧ (∀ j : Nat, j < nb → M16.1 50 j 2 = M16.1 111 0 j) ∧ (∀ j : Nat, j < 4 → M16.1 46 j 1 = M16.1 175 0 j) ∧ (∀ j : Nat, j < 4 → M16.1 46 j 2 = M16.1 176 0 j) ∧ (∀ j : Nat, j < nb → M16.1 50 j 0 = M16.1 110 0 j) ∧ (∀ j : Nat, j < nb → M16.1 50 j 1 = M16.1 112 0 j) ∧ M16.1 1 0 2 = M16.1 60 0 5 ∧ M16.1 27 0 1 = M16.1 60 0 52 ∧ M16.1 27 0 3 = M16.1 60 0 55 ∧ (∀ j : Nat, M16.1 28 0 j = M16.1 151 0 j) ∧ M16.1 27 0 4 = M16.1 60 0 56 ∧ M16.1 21 0 5 = M16.1 60 0 44 ∧ (∀ j : Nat, M16.1 22 0 j = M16.1 140 0 j) ∧ (∀ j : Nat, M16.1 23 0 j = M16.1 141 0 j) ∧ (∀ j : Nat, M16.1 24 0 j = M16.1 142 0 j) ∧ (∀ j : Nat, M16.1 25 0 j = M16.1 143 0 j) ∧ (∀ j : Nat, j < nb → M16.1 50 j 4 = M16.1 115 0 j) ∧ (∀ s i : Nat, s < 4 → i < 40 → M16.1 47 s i = M16.1 177 0 (40 * s + i)) ∧ rt_WN M16 ∧ rt_PC nb M16 ∧ rt_FB M16 ∧ (∀ j : Nat, j < nb → rt_nkM M16 j = rt_nmM M16 j) ∧ rt_BN nb M16 ∧ (∀ k : Nat, (k : Int) < (M16.1 27 0 3).toInt → rt_TR M16 k) ∧ (M16.1 27 0 4).toInt < (M16.1 27 0 3).toInt ∧ (∀ k : Nat, (k : Int) < (M16.1 21 0 5).toInt → (M16.1 22 0 k).toInt < nb) := ⟨hr90, hr91, hr92, hr93, hr94, hr95, hr96, hr97, hr98, hr99, hr910, hr911, hr912, hr913, hr914, hr915, hr916, hr917, hr918, hs90, hs91, hs92, hs93, hs94, hs95, hs96, hs97, hs98⟩
  exact kk M16 _ _ hw hI hS hrel9 ls (lv_sub hl [0, 1, 2, 3] rfl)
set_option maxHeartbeats 1000000 in
set_option maxRecDepth 20000 in
theorem lb_35 {p : Program} {l : Launch} {e : Env} {s : State} {m : MethodId} {below : List Frame} {meth : Method} {c : Code} {D : va_G} {ad : Nat → Nat → Nat} {C : Nat → Nat → ClassId} {nb : Nat} {M : fm_M} {b L : Nat} {xs : Nat → Int32} {H : Heap} {locs : List Loc} {kc sl : Nat} {i : Int32} (C0 : lw_At p s m meth c b L xs) (hkc : kc ≤ 10000) (hsl : sl ≤ 300000) (hc : fm_Cx D ad C nb (fun q : Nat => s.heap.size ≤ q) s) (hw : fm_at D ad C nb M H) (hI : fm_I nb ad M) (hS : va_S (fun q : Nat => s.heap.size ≤ q) s.heap H locs) (hi : 0 ≤ i.toInt ∧ i.toInt + 6 ≤ L) (hL : L ≤ 3072) (hrel : M.1 0 0 10 = M.1 60 0 16 ∧ M.1 0 0 9 = M.1 60 0 0 ∧ M.1 0 0 11 = M.1 60 0 21 ∧ (∀ j : Nat, j < nb → M.1 50 j 2 = M.1 111 0 j) ∧ (∀ j : Nat, j < 4 → M.1 46 j 1 = M.1 175 0 j) ∧ (∀ j : Nat, j < 4 → M.1 46 j 2 = M.1 176 0 j) ∧ (∀ j : Nat, j < nb → M.1 50 j 0 = M.1 110 0 j) ∧ (∀ j : Nat, j < nb → M.1 50 j 1 = M.1 112 0 j) ∧ M.1 1 0 2 = M.1 60 0 5 ∧ M.1 27 0 1 = M.1 60 0 52 ∧ M.1 27 0 3 = M.1 60 0 55 ∧ (∀ j : Nat, M.1 28 0 j = M.1 151 0 j) ∧ M.1 27 0 4 = M.1 60 0 56 ∧ M.1 21 0 5 = M.1 60 0 44 ∧ (∀ j : Nat, M.1 22 0 j = M.1 140 0 j) ∧ (∀ j : Nat, M.1 23 0 j = M.1 141 0 j) ∧ (∀ j : Nat, M.1 24 0 j = M.1 142 0 j) ∧ (∀ j : Nat, M.1 25 0 j = M.1 143 0 j) ∧ (∀ j : Nat, j < nb → M.1 50 j 4 = M.1 115 0 j) ∧ (∀ s i : Nat, s < 4 → i < 40 → M.1 47 s i = M.1 177 0 (40 * s + i)) ∧ rt_WN M ∧ rt_PC nb M ∧ rt_FB M ∧ (∀ j : Nat, j < nb → rt_nkM M j = rt_nmM M j) ∧ rt_BN nb M ∧ (∀ k : Nat, (k : Int) < (M.1 27 0 3).toInt → rt_TR M k) ∧ (M.1 27 0 4).toInt < (M.1 27 0 3).toInt ∧ (∀ k : Nat, (k : Int) < (M.1 21 0 5).toInt → (M.1 22 0 k).toInt < nb)) (kk : ∀ (M1 : fm_M) (H1 : Heap) (locs1 : List Loc), fm_at D ad C nb M1 H1 → fm_I nb ad M1 → va_S (fun q : Nat => s.heap.size ≤ q) s.heap H1 locs1 → M1.1 0 0 10 = M1.1 60 0 16 ∧ M1.1 0 0 9 = M1.1 60 0 0 ∧ M1.1 0 0 11 = M1.1 60 0 21 ∧ (∀ j : Nat, j < nb → M1.1 50 j 2 = M1.1 111 0 j) ∧ (∀ j : Nat, j < 4 → M1.1 46 j 1 = M1.1 175 0 j) ∧ (∀ j : Nat, j < 4 → M1.1 46 j 2 = M1.1 176 0 j) ∧ (∀ j : Nat, j < nb → M1.1 50 j 0 = M1.1 110 0 j) ∧ (∀ j : Nat, j < nb → M1.1 50 j 1 = M1.1 112 0 j) ∧ M1.1 1 0 2 = M1.1 60 0 5 ∧ M1.1 27 0 1 = M1.1 60 0 52 ∧ M1.1 27 0 3 = M1.1 60 0 55 ∧ (∀ j : Nat, M1.1 28 0 j = M1.1 151 0 j) ∧ M1.1 27 0 4 = M1.1 60 0 56 ∧ M1.1 21 0 5 = M1.1 60 0 44 ∧ (∀ j : Nat, M1.1 22 0 j = M1.1 140 0 j) ∧ (∀ j : Nat, M1.1 23 0 j = M1.1 141 0 j) ∧ (∀ j : Nat, M1.1 24 0 j = M1.1 142 0 j) ∧ (∀ j : Nat, M1.1 25 0 j = M1.1 143 0 j) ∧ (∀ j : Nat, j < nb → M1.1 50 j 4 = M1.1 115 0 j) ∧ (∀ s i : Nat, s < 4 → i < 40 → M1.1 47 s i = M1.1 177 0 (40 * s + i)) ∧ rt_WN M1 ∧ rt_PC nb M1 ∧ rt_FB M1 ∧ (∀ j : Nat, j < nb → rt_nkM M1 j = rt_nmM M1 j) ∧ rt_BN nb M1 ∧ (∀ k : Nat, (k : Int) < (M1.1 27 0 3).toInt → rt_TR M1 k) ∧ (M1.1 27 0 4).toInt < (M1.1 27 0 3).toInt ∧ (∀ k : Nat, (k : Int) < (M1.1 21 0 5).toInt → (M1.1 22 0 k).toInt < nb) → ∀ ls : Array Slot, lv_has ls 4 [(3, .int i), (2, .ref (ad 60 0)), (1, .ref (ad 0 0)), (0, .ref b)] → W p l e room_1 s m #[Value.ref b] below meth c H1 locs1 kc sl (lw_Z below #[Value.ref b] s) (F0 m 1835 ls [])) (ls : Array Slot) (hl : lv_has ls 4 [(3, .int i), (2, .ref (ad 60 0)), (1, .ref (ad 0 0)), (0, .ref b)]) : W p l e room_1 s m #[Value.ref b] below meth c H locs kc sl (lw_Z below #[Value.ref b] s) (F0 m 1676 ls []) := by
  obtain ⟨hx, hb, hr, hml, hown, hts, hX, hbl, hlocks, hgv⟩ := id C0
  have hown : s.vm.findClass RL = some m.cls := hown
  have hb : c.code = cL_law := hb
  have hbA : ¬ (fun q : Nat => s.heap.size ≤ q) b := Nat.not_le.mpr hbl
  have hk1 : kc + 0 ≤ room_1.cells := by show kc + 0 ≤ 600000; omega
  have hs1 : sl + 0 ≤ room_1.slots := by show sl + 0 ≤ 7302250; omega
  have hI0 := hI
  have hPC : rt_PC nb M := hrel.2.2.2.2.2.2.2.2.2.2.2.2.2.2.2.2.2.2.2.2.2.1
  have hCI : rt_CI nb M := hPC.1
  have hTI : rt_TI nb M := hPC.2.1
  have hBN : rt_BN nb M := hrel.2.2.2.2.2.2.2.2.2.2.2.2.2.2.2.2.2.2.2.2.2.2.2.2.1
  refine lv_aload_n hx hb dL_law_1676 rfl (lv_at hl 2 rfl) ?_
  refine lv_aload_n hx hb dL_law_1677 rfl (lv_at hl 3 rfl) ?_
  refine lv_iload_n hx hb dL_law_1678 rfl (lv_at hl 0 rfl) ?_
  refine lv_iconst (v := 1) hx hb dL_law_1679 (by decide) ?_
  refine fx_iadd hx hb dL_law_1680 rfl zk_1 (by omega) (fun y1 ey1 ty1 => ?_)
  refine va_sld hx hb hX hbl hbA hS (fm_in (by omega)) dL_law_1681 ?_
  refine lv_topi (fun x2 ex2 => ?_)
  refine lv_aload_n hx hb dL_law_1682 rfl (lv_at hl 3 rfl) ?_
  refine lv_iload_n hx hb dL_law_1683 rfl (lv_at hl 0 rfl) ?_
  refine lv_iconst (v := 2) hx hb dL_law_1684 (by decide) ?_
  refine fx_iadd hx hb dL_law_1685 rfl zk_2 (by omega) (fun y3 ey3 ty3 => ?_)
  refine va_sld hx hb hX hbl hbA hS (fm_in (by omega)) dL_law_1686 ?_
  refine lv_topi (fun x4 ex4 => ?_)
  refine lv_aload_n hx hb dL_law_1687 rfl (lv_at hl 3 rfl) ?_
  refine lv_iload_n hx hb dL_law_1688 rfl (lv_at hl 0 rfl) ?_
  refine lv_iconst (v := 3) hx hb dL_law_1689 (by decide) ?_
  refine fx_iadd hx hb dL_law_1690 rfl zk_3 (by omega) (fun y5 ey5 ty5 => ?_)
  refine va_sld hx hb hX hbl hbA hS (fm_in (by omega)) dL_law_1691 ?_
  refine lv_topi (fun x6 ex6 => ?_)
  refine lv_aload_n hx hb dL_law_1692 rfl (lv_at hl 3 rfl) ?_
  refine lv_iload_n hx hb dL_law_1693 rfl (lv_at hl 0 rfl) ?_
  refine lv_iconst (v := 4) hx hb dL_law_1694 (by decide) ?_
  refine fx_iadd hx hb dL_law_1695 rfl zk_4 (by omega) (fun y7 ey7 ty7 => ?_)
  refine va_sld hx hb hX hbl hbA hS (fm_in (by omega)) dL_law_1696 ?_
  refine lv_topi (fun x8 ex8 => ?_)
  refine lv_aload_n hx hb dL_law_1697 rfl (lv_at hl 3 rfl) ?_
  refine lv_iload_n hx hb dL_law_1698 rfl (lv_at hl 0 rfl) ?_
  refine lv_iconst (v := 5) hx hb dL_law_1699 (by decide) ?_
  refine fx_iadd hx hb dL_law_1700 rfl zk_5 (by omega) (fun y9 ey9 ty9 => ?_)
  refine va_sld hx hb hX hbl hbA hS (fm_in (by omega)) dL_law_1701 ?_
  refine lv_topi (fun x10 ex10 => ?_)
  refine fm_ci (va_runV (As := [.int x2, .int x4, .int x6, .int x8, .int x10]) (rest := []) ⟨hx, hb, hml, hown, hts⟩ (fc_X11_copy l D ad C nb M hI x2 x4 x6 x8 x10) (cwV 5 hts gL_law_X11_copy rfl rfl rfl (by decide +kernel) ⟨Nat.le_of_ble_eq_true rfl, Nat.le_of_ble_eq_true rfl⟩) (fm_preV hc hw hS kl_0 sh_0 rfl) rfl rfl hl.1 rfl (lv_room (Nat.le_of_ble_eq_true rfl)) dL_law_1702 ⟨hk1, hs1⟩) hS hc (fun r11 M12 H locs hr11 hw hS => ?_)
  obtain ⟨hI, hEM12, hr11⟩ := hr11
  refine lv_pop hx hb dL_law_1705 rfl ?_
  refine lv_aload_n hx hb dL_law_1706 rfl (lv_at hl 1 rfl) ?_
  refine lv_aload_n hx hb dL_law_1707 rfl (lv_at hl 3 rfl) ?_
  refine lv_iload_n hx hb dL_law_1708 rfl (lv_at hl 0 rfl) ?_
  refine lv_iconst (v := 1) hx hb dL_law_1709 (by decide) ?_
  refine fx_iadd hx hb dL_law_1710 rfl zk_1 (by omega) (fun y13 ey13 ty13 => ?_)
  refine va_sld hx hb hX hbl hbA hS (fm_in (by omega)) dL_law_1711 ?_
  refine lv_topi (fun x14 ex14 => ?_)
  have qx14 : x2 = x14 := by rw [ex14, ex2, ey13, ey1]
  clear ex14
  subst qx14
  refine lv_aload_n hx hb dL_law_1712 rfl (lv_at hl 3 rfl) ?_
  refine lv_iload_n hx hb dL_law_1713 rfl (lv_at hl 0 rfl) ?_
  refine lv_iconst (v := 2) hx hb dL_law_1714 (by decide) ?_
  refine fx_iadd hx hb dL_law_1715 rfl zk_2 (by omega) (fun y15 ey15 ty15 => ?_)
  refine va_sld hx hb hX hbl hbA hS (fm_in (by omega)) dL_law_1716 ?_
  refine lv_topi (fun x16 ex16 => ?_)
  have qx16 : x4 = x16 := by rw [ex16, ex4, ey15, ey3]
  clear ex16
  subst qx16
  refine lv_aload_n hx hb dL_law_1717 rfl (lv_at hl 3 rfl) ?_
  refine lv_iload_n hx hb dL_law_1718 rfl (lv_at hl 0 rfl) ?_
  refine lv_iconst (v := 3) hx hb dL_law_1719 (by decide) ?_
  refine fx_iadd hx hb dL_law_1720 rfl zk_3 (by omega) (fun y17 ey17 ty17 => ?_)
  refine va_sld hx hb hX hbl hbA hS (fm_in (by omega)) dL_law_1721 ?_
  refine lv_topi (fun x18 ex18 => ?_)
  have qx18 : x6 = x18 := by rw [ex18, ex6, ey17, ey5]
  clear ex18
  subst qx18
  refine lv_aload_n hx hb dL_law_1722 rfl (lv_at hl 3 rfl) ?_
  refine lv_iload_n hx hb dL_law_1723 rfl (lv_at hl 0 rfl) ?_
  refine lv_iconst (v := 4) hx hb dL_law_1724 (by decide) ?_
  refine fx_iadd hx hb dL_law_1725 rfl zk_4 (by omega) (fun y19 ey19 ty19 => ?_)
  refine va_sld hx hb hX hbl hbA hS (fm_in (by omega)) dL_law_1726 ?_
  refine lv_topi (fun x20 ex20 => ?_)
  have qx20 : x8 = x20 := by rw [ex20, ex8, ey19, ey7]
  clear ex20
  subst qx20
  refine lv_aload_n hx hb dL_law_1727 rfl (lv_at hl 3 rfl) ?_
  refine lv_iload_n hx hb dL_law_1728 rfl (lv_at hl 0 rfl) ?_
  refine lv_iconst (v := 5) hx hb dL_law_1729 (by decide) ?_
  refine fx_iadd hx hb dL_law_1730 rfl zk_5 (by omega) (fun y21 ey21 ty21 => ?_)
  refine va_sld hx hb hX hbl hbA hS (fm_in (by omega)) dL_law_1731 ?_
  refine lv_topi (fun x22 ex22 => ?_)
  have qx22 : x10 = x22 := by rw [ex22, ex10, ey21, ey9]
  clear ex22
  subst qx22
  refine fm_ci (va_runV (As := [.int x2, .int x4, .int x6, .int x8, .int x10]) (rest := []) ⟨hx, hb, hml, hown, hts⟩ (fc_X12_copy l D ad C nb M12 hI x2 x4 x6 x8 x10) (cwV 5 hts gL_law_X12_copy rfl rfl rfl (by decide +kernel) ⟨Nat.le_of_ble_eq_true rfl, Nat.le_of_ble_eq_true rfl⟩) (fm_preV hc hw hS kl_60 sh_60 rfl) rfl rfl hl.1 rfl (lv_room (Nat.le_of_ble_eq_true rfl)) dL_law_1732 ⟨hk1, hs1⟩) hS hc (fun r23 M24 H locs hr23 hw hS => ?_)
  obtain ⟨hI, hEM24, hr23⟩ := hr23
  refine lv_pop hx hb dL_law_1735 rfl ?_
  refine lv_goto (tgt := 1835) hx hb dL_law_1736 (by decide) ?_
  have f10 : (M12.1 60 0 16).toInt = (M.1 0 0 10).toInt := by rw [(hEM12 60 0 16 (by decide)).1, hrel.1]
  have f20 : (M24.1 0 0 10).toInt = (M12.1 0 0 10).toInt := by rw [(hEM24 0 0 10 (by decide)).1]
  have f30 : (M12.1 0 0 10).toInt = (M.1 0 0 10).toInt := by rw [(hEM12 0 0 10 (by decide)).1]
  have f40 : (M24.1 60 0 16).toInt = (M12.1 60 0 16).toInt := by rw [(hEM24 60 0 16 (by decide)).1]
  have f50 := hI0.bd (k := 0) bd_0_10
  have f11 : (M12.1 60 0 0).toInt = (M.1 0 0 9).toInt := by rw [(hEM12 60 0 0 (by decide)).1, hrel.2.1]
  have f21 : (M24.1 0 0 9).toInt = (M12.1 0 0 9).toInt := by rw [(hEM24 0 0 9 (by decide)).1]
  have f31 : (M12.1 0 0 9).toInt = (M.1 0 0 9).toInt := by rw [(hEM12 0 0 9 (by decide)).1]
  have f41 : (M24.1 60 0 0).toInt = (M12.1 60 0 0).toInt := by rw [(hEM24 60 0 0 (by decide)).1]
  have f51 := hI0.bd (k := 0) bd_0_9
  have f12 : (M12.1 60 0 21).toInt = (M.1 0 0 11).toInt := by rw [(hEM12 60 0 21 (by decide)).1, hrel.2.2.1]
  have f22 : (M24.1 0 0 11).toInt = (M12.1 0 0 11).toInt := by rw [(hEM24 0 0 11 (by decide)).1]
  have f32 : (M12.1 0 0 11).toInt = (M.1 0 0 11).toInt := by rw [(hEM12 0 0 11 (by decide)).1]
  have f42 : (M24.1 60 0 21).toInt = (M12.1 60 0 21).toInt := by rw [(hEM24 60 0 21 (by decide)).1]
  have f52 := hI0.bd (k := 0) bd_0_11
  have f18 : (M12.1 60 0 5).toInt = (M.1 1 0 2).toInt := by rw [(hEM12 60 0 5 (by decide)).1, hrel.2.2.2.2.2.2.2.2.1]
  have f28 : (M24.1 1 0 2).toInt = (M12.1 1 0 2).toInt := by rw [(hEM24 1 0 2 (by decide)).1]
  have f38 : (M12.1 1 0 2).toInt = (M.1 1 0 2).toInt := by rw [(hEM12 1 0 2 (by decide)).1]
  have f48 : (M24.1 60 0 5).toInt = (M12.1 60 0 5).toInt := by rw [(hEM24 60 0 5 (by decide)).1]
  have f58 := hI0.bd (k := 0) bd_1_2
  have f19 : (M12.1 60 0 52).toInt = (M.1 27 0 1).toInt := by rw [(hEM12 60 0 52 (by decide)).1, hrel.2.2.2.2.2.2.2.2.2.1]
  have f29 : (M24.1 27 0 1).toInt = (M12.1 27 0 1).toInt := by rw [(hEM24 27 0 1 (by decide)).1]
  have f39 : (M12.1 27 0 1).toInt = (M.1 27 0 1).toInt := by rw [(hEM12 27 0 1 (by decide)).1]
  have f49 : (M24.1 60 0 52).toInt = (M12.1 60 0 52).toInt := by rw [(hEM24 60 0 52 (by decide)).1]
  have f59 := hI0.bd (k := 0) bd_27_1
  have f110 : (M12.1 60 0 55).toInt = (M.1 27 0 3).toInt := by rw [(hEM12 60 0 55 (by decide)).1, hrel.2.2.2.2.2.2.2.2.2.2.1]
  have f210 : (M24.1 27 0 3).toInt = (M12.1 27 0 3).toInt := by rw [(hEM24 27 0 3 (by decide)).1]
  have f310 : (M12.1 27 0 3).toInt = (M.1 27 0 3).toInt := by rw [(hEM12 27 0 3 (by decide)).1]
  have f410 : (M24.1 60 0 55).toInt = (M12.1 60 0 55).toInt := by rw [(hEM24 60 0 55 (by decide)).1]
  have f510 := hI0.bd (k := 0) bd_27_3
  have f112 : (M12.1 60 0 56).toInt = (M.1 27 0 4).toInt := by rw [(hEM12 60 0 56 (by decide)).1, hrel.2.2.2.2.2.2.2.2.2.2.2.2.1]
  have f212 : (M24.1 27 0 4).toInt = (M12.1 27 0 4).toInt := by rw [(hEM24 27 0 4 (by decide)).1]
  have f312 : (M12.1 27 0 4).toInt = (M.1 27 0 4).toInt := by rw [(hEM12 27 0 4 (by decide)).1]
  have f412 : (M24.1 60 0 56).toInt = (M12.1 60 0 56).toInt := by rw [(hEM24 60 0 56 (by decide)).1]
  have f512 := hI0.bd (k := 0) bd_27_4
  have f113 : (M12.1 60 0 44).toInt = (M.1 21 0 5).toInt := by rw [(hEM12 60 0 44 (by decide)).1, hrel.2.2.2.2.2.2.2.2.2.2.2.2.2.1]
  have f213 : (M24.1 21 0 5).toInt = (M12.1 21 0 5).toInt := by rw [(hEM24 21 0 5 (by decide)).1]
  have f313 : (M12.1 21 0 5).toInt = (M.1 21 0 5).toInt := by rw [(hEM12 21 0 5 (by decide)).1]
  have f413 : (M24.1 60 0 44).toInt = (M12.1 60 0 44).toInt := by rw [(hEM24 60 0 44 (by decide)).1]
  have f513 := hI0.bd (k := 0) bd_21_5
  have hn9 : (M.1 0 0 10).toInt = nb := hI0.2.2.2.2.2.2.1
  have g4p0 : ¬ (0 ≤ x2.toInt ∧ x2.toInt < 4) ∨ (M12.1 175 0 x2.toNatClampNeg).toInt = (M.1 46 x2.toNatClampNeg 1).toInt := by
    by_cases h9 : 0 ≤ x2.toInt ∧ x2.toInt < 4
    · exact Or.inr (by rw [(hEM12 175 0 x2.toNatClampNeg (by rw [cd_175]; decide)).1, hrel.2.2.2.2.1 _ (zi_cln h9)])
    · exact Or.inl h9
  have g4p2 : ¬ (0 ≤ x6.toInt ∧ x6.toInt < 4) ∨ (M12.1 175 0 x6.toNatClampNeg).toInt = (M.1 46 x6.toNatClampNeg 1).toInt := by
    by_cases h9 : 0 ≤ x6.toInt ∧ x6.toInt < 4
    · exact Or.inr (by rw [(hEM12 175 0 x6.toNatClampNeg (by rw [cd_175]; decide)).1, hrel.2.2.2.2.1 _ (zi_cln h9)])
    · exact Or.inl h9
  have g5p0 : ¬ (0 ≤ x2.toInt ∧ x2.toInt < 4) ∨ (M12.1 176 0 x2.toNatClampNeg).toInt = (M.1 46 x2.toNatClampNeg 2).toInt := by
    by_cases h9 : 0 ≤ x2.toInt ∧ x2.toInt < 4
    · exact Or.inr (by rw [(hEM12 176 0 x2.toNatClampNeg (by rw [cd_176]; decide)).1, hrel.2.2.2.2.2.1 _ (zi_cln h9)])
    · exact Or.inl h9
  have g5p2 : ¬ (0 ≤ x6.toInt ∧ x6.toInt < 4) ∨ (M12.1 176 0 x6.toNatClampNeg).toInt = (M.1 46 x6.toNatClampNeg 2).toInt := by
    by_cases h9 : 0 ≤ x6.toInt ∧ x6.toInt < 4
    · exact Or.inr (by rw [(hEM12 176 0 x6.toNatClampNeg (by rw [cd_176]; decide)).1, hrel.2.2.2.2.2.1 _ (zi_cln h9)])
    · exact Or.inl h9
  have hr90 : M24.1 0 0 10 = M24.1 60 0 16 := by rw [(hEM24 0 0 10 (by decide)).1, (hEM12 0 0 10 (by decide)).1, (hEM24 60 0 16 (by decide)).1, (hEM12 60 0 16 (by decide)).1]; exact hrel.1
  have hr91 : M24.1 0 0 9 = M24.1 60 0 0 := by rw [(hEM24 0 0 9 (by decide)).1, (hEM12 0 0 9 (by decide)).1, (hEM24 60 0 0 (by decide)).1, (hEM12 60 0 0 (by decide)).1]; exact hrel.2.1
  have hr92 : M24.1 0 0 11 = M24.1 60 0 21 := by rw [(hEM24 0 0 11 (by decide)).1, (hEM12 0 0 11 (by decide)).1, (hEM24 60 0 21 (by decide)).1, (hEM12 60 0 21 (by decide)).1]; exact hrel.2.2.1
  have hr93 : (∀ j : Nat, j < nb → M24.1 50 j 2 = M24.1 111 0 j) := fun j hj => by rw [(hEM24 50 j 2 (by decide)).1, (hEM12 50 j 2 (by decide)).1, (hEM24 111 0 j (by rw [cd_111]; decide)).1, (hEM12 111 0 j (by rw [cd_111]; decide)).1]; exact hrel.2.2.2.1 j hj
  have hr94 : (∀ j : Nat, j < 4 → M24.1 46 j 1 = M24.1 175 0 j) := fun j hj => by rw [(hEM24 46 j 1 (by decide)).1, (hEM12 46 j 1 (by decide)).1, (hEM24 175 0 j (by rw [cd_175]; decide)).1, (hEM12 175 0 j (by rw [cd_175]; decide)).1]; exact hrel.2.2.2.2.1 j hj
  have hr95 : (∀ j : Nat, j < 4 → M24.1 46 j 2 = M24.1 176 0 j) := fun j hj => by rw [(hEM24 46 j 2 (by decide)).1, (hEM12 46 j 2 (by decide)).1, (hEM24 176 0 j (by rw [cd_176]; decide)).1, (hEM12 176 0 j (by rw [cd_176]; decide)).1]; exact hrel.2.2.2.2.2.1 j hj
  have hr96 : (∀ j : Nat, j < nb → M24.1 50 j 0 = M24.1 110 0 j) := fun j hj => by rw [(hEM24 50 j 0 (by decide)).1, (hEM12 50 j 0 (by decide)).1, (hEM24 110 0 j (by rw [cd_110]; decide)).1, (hEM12 110 0 j (by rw [cd_110]; decide)).1]; exact hrel.2.2.2.2.2.2.1 j hj
  have hr97 : (∀ j : Nat, j < nb → M24.1 50 j 1 = M24.1 112 0 j) := fun j hj => by rw [(hEM24 50 j 1 (by decide)).1, (hEM12 50 j 1 (by decide)).1, (hEM24 112 0 j (by rw [cd_112]; decide)).1, (hEM12 112 0 j (by rw [cd_112]; decide)).1]; exact hrel.2.2.2.2.2.2.2.1 j hj
  have hr98 : M24.1 1 0 2 = M24.1 60 0 5 := by rw [(hEM24 1 0 2 (by decide)).1, (hEM12 1 0 2 (by decide)).1, (hEM24 60 0 5 (by decide)).1, (hEM12 60 0 5 (by decide)).1]; exact hrel.2.2.2.2.2.2.2.2.1
  have hr99 : M24.1 27 0 1 = M24.1 60 0 52 := by rw [(hEM24 27 0 1 (by decide)).1, (hEM12 27 0 1 (by decide)).1, (hEM24 60 0 52 (by decide)).1, (hEM12 60 0 52 (by decide)).1]; exact hrel.2.2.2.2.2.2.2.2.2.1
  have hr910 : M24.1 27 0 3 = M24.1 60 0 55 := by rw [(hEM24 27 0 3 (by decide)).1, (hEM12 27 0 3 (by decide)).1, (hEM24 60 0 55 (by decide)).1, (hEM12 60 0 55 (by decide)).1]; exact hrel.2.2.2.2.2.2.2.2.2.2.1
  have hr911 : (∀ j : Nat, M24.1 28 0 j = M24.1 151 0 j) := fun j => by rw [(hEM24 28 0 j (by rw [cd_28]; decide)).1, (hEM12 28 0 j (by rw [cd_28]; decide)).1, (hEM24 151 0 j (by rw [cd_151]; decide)).1, (hEM12 151 0 j (by rw [cd_151]; decide)).1]; exact hrel.2.2.2.2.2.2.2.2.2.2.2.1 j
  have hr912 : M24.1 27 0 4 = M24.1 60 0 56 := by rw [(hEM24 27 0 4 (by decide)).1, (hEM12 27 0 4 (by decide)).1, (hEM24 60 0 56 (by decide)).1, (hEM12 60 0 56 (by decide)).1]; exact hrel.2.2.2.2.2.2.2.2.2.2.2.2.1
  have hr913 : M24.1 21 0 5 = M24.1 60 0 44 := by rw [(hEM24 21 0 5 (by decide)).1, (hEM12 21 0 5 (by decide)).1, (hEM24 60 0 44 (by decide)).1, (hEM12 60 0 44 (by decide)).1]; exact hrel.2.2.2.2.2.2.2.2.2.2.2.2.2.1
  have hr914 : (∀ j : Nat, M24.1 22 0 j = M24.1 140 0 j) := fun j => by rw [(hEM24 22 0 j (by rw [cd_22]; decide)).1, (hEM12 22 0 j (by rw [cd_22]; decide)).1, (hEM24 140 0 j (by rw [cd_140]; decide)).1, (hEM12 140 0 j (by rw [cd_140]; decide)).1]; exact hrel.2.2.2.2.2.2.2.2.2.2.2.2.2.2.1 j
  have hr915 : (∀ j : Nat, M24.1 23 0 j = M24.1 141 0 j) := fun j => by rw [(hEM24 23 0 j (by rw [cd_23]; decide)).1, (hEM12 23 0 j (by rw [cd_23]; decide)).1, (hEM24 141 0 j (by rw [cd_141]; decide)).1, (hEM12 141 0 j (by rw [cd_141]; decide)).1]; exact hrel.2.2.2.2.2.2.2.2.2.2.2.2.2.2.2.1 j
  have hr916 : (∀ j : Nat, M24.1 24 0 j = M24.1 142 0 j) := fun j => by rw [(hEM24 24 0 j (by rw [cd_24]; decide)).1, (hEM12 24 0 j (by rw [cd_24]; decide)).1, (hEM24 142 0 j (by rw [cd_142]; decide)).1, (hEM12 142 0 j (by rw [cd_142]; decide)).1]; exact hrel.2.2.2.2.2.2.2.2.2.2.2.2.2.2.2.2.1 j
  have hr917 : (∀ j : Nat, M24.1 25 0 j = M24.1 143 0 j) := fun j => by rw [(hEM24 25 0 j (by rw [cd_25]; decide)).1, (hEM12 25 0 j (by rw [cd_25]; decide)).1, (hEM24 143 0 j (by rw [cd_143]; decide)).1, (hEM12 143 0 j (by rw [cd_143]; decide)).1]; exact hrel.2.2.2.2.2.2.2.2.2.2.2.2.2.2.2.2.2.1 j
  have hr918 : (∀ j : Nat, j < nb → M24.1 50 j 4 = M24.1 115 0 j) := fun j hj => by rw [(hEM24 50 j 4 (by decide)).1, (hEM12 50 j 4 (by decide)).1, (hEM24 115 0 j (by rw [cd_115]; decide)).1, (hEM12 115 0 j (by rw [cd_115]; decide)).1]; exact hrel.2.2.2.2.2.2.2.2.2.2.2.2.2.2.2.2.2.2.1 j hj
  have hs90 : (∀ s i : Nat, s < 4 → i < 40 → M24.1 47 s i = M24.1 177 0 (40 * s + i)) := by
    intro s i hs hi
    rcases hr11 with ⟨a0, a1, a2⟩ | ⟨a0, a1, a2, a3⟩ | ⟨a0, a1, a2, a3, a4, a5⟩ | ⟨a0, a1, a2, a3, a4, a5⟩ | ⟨a0, a1, a2, a3, a4, a5⟩
    · rcases hr23 with ⟨g0, g1, g2⟩ | ⟨g0, g1, g2, g3⟩ | ⟨g0, g1, g2, g3, g4, g5⟩ | ⟨g0, g1, g2, g3, g4, g5⟩ | ⟨g0, g1, g2, g3, g4, g5⟩
      · rw [(hEM24 47 s i (by rw [cd_47]; decide)).1, a2 s i, g2 (40 * s + i), (hEM12 177 0 (40 * s + i) (by rw [cd_177]; decide)).1]; exact hrel.2.2.2.2.2.2.2.2.2.2.2.2.2.2.2.2.2.2.2.1 s i hs hi
      · rw [(hEM24 47 s i (by rw [cd_47]; decide)).1, a2 s i, g3 (40 * s + i), (hEM12 177 0 (40 * s + i) (by rw [cd_177]; decide)).1]; exact hrel.2.2.2.2.2.2.2.2.2.2.2.2.2.2.2.2.2.2.2.1 s i hs hi
      · rw [(hEM24 47 s i (by rw [cd_47]; decide)).1, a2 s i, g5 (40 * s + i), (hEM12 177 0 (40 * s + i) (by rw [cd_177]; decide)).1]; exact hrel.2.2.2.2.2.2.2.2.2.2.2.2.2.2.2.2.2.2.2.1 s i hs hi
      · rw [(hEM24 47 s i (by rw [cd_47]; decide)).1, a2 s i, g5 (40 * s + i), (hEM12 177 0 (40 * s + i) (by rw [cd_177]; decide)).1]; exact hrel.2.2.2.2.2.2.2.2.2.2.2.2.2.2.2.2.2.2.2.1 s i hs hi
      · exfalso; omega
    · rcases hr23 with ⟨g0, g1, g2⟩ | ⟨g0, g1, g2, g3⟩ | ⟨g0, g1, g2, g3, g4, g5⟩ | ⟨g0, g1, g2, g3, g4, g5⟩ | ⟨g0, g1, g2, g3, g4, g5⟩
      · rw [(hEM24 47 s i (by rw [cd_47]; decide)).1, a3 s i, g2 (40 * s + i), (hEM12 177 0 (40 * s + i) (by rw [cd_177]; decide)).1]; exact hrel.2.2.2.2.2.2.2.2.2.2.2.2.2.2.2.2.2.2.2.1 s i hs hi
      · rw [(hEM24 47 s i (by rw [cd_47]; decide)).1, a3 s i, g3 (40 * s + i), (hEM12 177 0 (40 * s + i) (by rw [cd_177]; decide)).1]; exact hrel.2.2.2.2.2.2.2.2.2.2.2.2.2.2.2.2.2.2.2.1 s i hs hi
      · rw [(hEM24 47 s i (by rw [cd_47]; decide)).1, a3 s i, g5 (40 * s + i), (hEM12 177 0 (40 * s + i) (by rw [cd_177]; decide)).1]; exact hrel.2.2.2.2.2.2.2.2.2.2.2.2.2.2.2.2.2.2.2.1 s i hs hi
      · rw [(hEM24 47 s i (by rw [cd_47]; decide)).1, a3 s i, g5 (40 * s + i), (hEM12 177 0 (40 * s + i) (by rw [cd_177]; decide)).1]; exact hrel.2.2.2.2.2.2.2.2.2.2.2.2.2.2.2.2.2.2.2.1 s i hs hi
      · exfalso; omega
    · rcases hr23 with ⟨g0, g1, g2⟩ | ⟨g0, g1, g2, g3⟩ | ⟨g0, g1, g2, g3, g4, g5⟩ | ⟨g0, g1, g2, g3, g4, g5⟩ | ⟨g0, g1, g2, g3, g4, g5⟩
      · rw [(hEM24 47 s i (by rw [cd_47]; decide)).1, a5 s i, g2 (40 * s + i), (hEM12 177 0 (40 * s + i) (by rw [cd_177]; decide)).1]; exact hrel.2.2.2.2.2.2.2.2.2.2.2.2.2.2.2.2.2.2.2.1 s i hs hi
      · rw [(hEM24 47 s i (by rw [cd_47]; decide)).1, a5 s i, g3 (40 * s + i), (hEM12 177 0 (40 * s + i) (by rw [cd_177]; decide)).1]; exact hrel.2.2.2.2.2.2.2.2.2.2.2.2.2.2.2.2.2.2.2.1 s i hs hi
      · rw [(hEM24 47 s i (by rw [cd_47]; decide)).1, a5 s i, g5 (40 * s + i), (hEM12 177 0 (40 * s + i) (by rw [cd_177]; decide)).1]; exact hrel.2.2.2.2.2.2.2.2.2.2.2.2.2.2.2.2.2.2.2.1 s i hs hi
      · rw [(hEM24 47 s i (by rw [cd_47]; decide)).1, a5 s i, g5 (40 * s + i), (hEM12 177 0 (40 * s + i) (by rw [cd_177]; decide)).1]; exact hrel.2.2.2.2.2.2.2.2.2.2.2.2.2.2.2.2.2.2.2.1 s i hs hi
      · exfalso; omega
    · rcases hr23 with ⟨g0, g1, g2⟩ | ⟨g0, g1, g2, g3⟩ | ⟨g0, g1, g2, g3, g4, g5⟩ | ⟨g0, g1, g2, g3, g4, g5⟩ | ⟨g0, g1, g2, g3, g4, g5⟩
      · rw [(hEM24 47 s i (by rw [cd_47]; decide)).1, a5 s i, g2 (40 * s + i), (hEM12 177 0 (40 * s + i) (by rw [cd_177]; decide)).1]; exact hrel.2.2.2.2.2.2.2.2.2.2.2.2.2.2.2.2.2.2.2.1 s i hs hi
      · rw [(hEM24 47 s i (by rw [cd_47]; decide)).1, a5 s i, g3 (40 * s + i), (hEM12 177 0 (40 * s + i) (by rw [cd_177]; decide)).1]; exact hrel.2.2.2.2.2.2.2.2.2.2.2.2.2.2.2.2.2.2.2.1 s i hs hi
      · rw [(hEM24 47 s i (by rw [cd_47]; decide)).1, a5 s i, g5 (40 * s + i), (hEM12 177 0 (40 * s + i) (by rw [cd_177]; decide)).1]; exact hrel.2.2.2.2.2.2.2.2.2.2.2.2.2.2.2.2.2.2.2.1 s i hs hi
      · rw [(hEM24 47 s i (by rw [cd_47]; decide)).1, a5 s i, g5 (40 * s + i), (hEM12 177 0 (40 * s + i) (by rw [cd_177]; decide)).1]; exact hrel.2.2.2.2.2.2.2.2.2.2.2.2.2.2.2.2.2.2.2.1 s i hs hi
      · exfalso; omega
    · rcases hr23 with ⟨g0, g1, g2⟩ | ⟨g0, g1, g2, g3⟩ | ⟨g0, g1, g2, g3, g4, g5⟩ | ⟨g0, g1, g2, g3, g4, g5⟩ | ⟨g0, g1, g2, g3, g4, g5⟩
      · exfalso; omega
      · exfalso; omega
      · exfalso; omega
      · exfalso; omega
      · rw [(hEM24 47 s i (by rw [cd_47]; decide)).1, a5 s i, g5 (40 * s + i)]
        have e0 : (x2.toNatClampNeg : Int) = x2.toInt := by rw [Int32.toNatClampNeg]; omega
        have e1 : (x4.toNatClampNeg : Int) = x4.toInt := by rw [Int32.toNatClampNeg]; omega
        have e2 : (x6.toNatClampNeg : Int) = x6.toInt := by rw [Int32.toNatClampNeg]; omega
        have e3 : (x8.toNatClampNeg : Int) = x8.toInt := by rw [Int32.toNatClampNeg]; omega
        have e4 : (x10.toNatClampNeg : Int) = x10.toInt := by rw [Int32.toNatClampNeg]; omega
        have b8 := hI0.bd (a := 46) (k := x2.toNatClampNeg) bd_46_2
        have b9 := hI0.bd (a := 46) (k := x6.toNatClampNeg) bd_46_2
        unfold va_cpy
        by_cases h9 : s = x6.toNatClampNeg
        · rw [if_pos h9]
          by_cases h8 : x8.toNatClampNeg ≤ i ∧ i < x8.toNatClampNeg + x10.toNatClampNeg
          · rw [if_pos h8, if_pos (by omega), hrel.2.2.2.2.2.2.2.2.2.2.2.2.2.2.2.2.2.2.2.1 x2.toNatClampNeg (x4.toNatClampNeg + (i - x8.toNatClampNeg)) (by omega) (by omega), (hEM12 177 0 _ (by rw [cd_177]; decide)).1]
            exact congrArg (M.1 177 0) (by omega)
          · rw [if_neg h8, if_neg (by omega), (hEM12 177 0 (40 * s + i) (by rw [cd_177]; decide)).1, ← h9]; exact hrel.2.2.2.2.2.2.2.2.2.2.2.2.2.2.2.2.2.2.2.1 s i hs hi
        · rw [if_neg h9, if_neg (by omega), (hEM12 177 0 (40 * s + i) (by rw [cd_177]; decide)).1]; exact hrel.2.2.2.2.2.2.2.2.2.2.2.2.2.2.2.2.2.2.2.1 s i hs hi
  have hs91_1 : rt_WN M12 := rt_WN_same hEM12 (by decide) hrel.2.2.2.2.2.2.2.2.2.2.2.2.2.2.2.2.2.2.2.2.1
  have hs91 : rt_WN M24 := rt_WN_same hEM24 (by decide) hs91_1
  have hs92_1 : rt_PC nb M12 := rt_PC_same hEM12 (by decide) hrel.2.2.2.2.2.2.2.2.2.2.2.2.2.2.2.2.2.2.2.2.2.1
  have hs92 : rt_PC nb M24 := rt_PC_same hEM24 (by decide) hs92_1
  have hs93_1 : rt_FB M12 := rt_FB_same hEM12 (by decide) hrel.2.2.2.2.2.2.2.2.2.2.2.2.2.2.2.2.2.2.2.2.2.2.1
  have hs93 : rt_FB M24 := rt_FB_same hEM24 (by decide) hs93_1
  have hs94 : (∀ j : Nat, j < nb → rt_nkM M24 j = rt_nmM M24 j) := by rw [rt_nkM_same hEM24 (by decide), rt_nkM_same hEM12 (by decide), rt_nmM_same hEM24 (by decide), rt_nmM_same hEM12 (by decide)]; exact hrel.2.2.2.2.2.2.2.2.2.2.2.2.2.2.2.2.2.2.2.2.2.2.2.1
  have hs95_1 : rt_BN nb M12 := rt_BN_eq (Int.le_of_eq (congrArg Int32.toInt (hEM12 0 0 9 (by decide)).1.symm)) (fun j => (hEM12 50 j 2 (by decide)).1) hrel.2.2.2.2.2.2.2.2.2.2.2.2.2.2.2.2.2.2.2.2.2.2.2.2.1
  have hs95 : rt_BN nb M24 := rt_BN_eq (Int.le_of_eq (congrArg Int32.toInt (hEM24 0 0 9 (by decide)).1.symm)) (fun j => (hEM24 50 j 2 (by decide)).1) hs95_1
  have hs96_1 : (∀ k : Nat, (k : Int) < (M12.1 27 0 3).toInt → rt_TR M12 k) := fun k hk => rt_TR_same hEM12 (by decide) (hrel.2.2.2.2.2.2.2.2.2.2.2.2.2.2.2.2.2.2.2.2.2.2.2.2.2.1 k (by rw [← (hEM12 27 0 3 (by decide)).1]; exact hk))
  have hs96 : (∀ k : Nat, (k : Int) < (M24.1 27 0 3).toInt → rt_TR M24 k) := fun k hk => rt_TR_same hEM24 (by decide) (hs96_1 k (by rw [← (hEM24 27 0 3 (by decide)).1]; exact hk))
  have hs97 : (M24.1 27 0 4).toInt < (M24.1 27 0 3).toInt := by rw [(hEM24 27 0 4 (by decide)).1, (hEM12 27 0 4 (by decide)).1, (hEM24 27 0 3 (by decide)).1, (hEM12 27 0 3 (by decide)).1]; exact hrel.2.2.2.2.2.2.2.2.2.2.2.2.2.2.2.2.2.2.2.2.2.2.2.2.2.2.1
  have hs98_1 : (∀ k : Nat, (k : Int) < (M12.1 21 0 5).toInt → (M12.1 22 0 k).toInt < nb) := fun k hk => by rw [(hEM12 22 0 k (by rw [cd_22]; decide)).1]; exact hrel.2.2.2.2.2.2.2.2.2.2.2.2.2.2.2.2.2.2.2.2.2.2.2.2.2.2.2 k (by rw [← (hEM12 21 0 5 (by decide)).1]; exact hk)
  have hs98 : (∀ k : Nat, (k : Int) < (M24.1 21 0 5).toInt → (M24.1 22 0 k).toInt < nb) := fun k hk => by rw [(hEM24 22 0 k (by rw [cd_22]; decide)).1]; exact hs98_1 k (by rw [← (hEM24 21 0 5 (by decide)).1]; exact hk)
  have hrel9 : M24.1 0 0 10 = M24.1 60 0 16 ∧ M24.1 0 0 9 = M24.1 60 0 0 ∧ M24.1 0 0 11 = M24.1 60 0 21 ∧ (∀ j : Nat, j < nb → M24.1 50 j 2 = M24.1 111 0 j) ∧ (∀ j : Nat, j < 4 → M24.1 46 j 1 = M24.1 175 0 j) ∧ (∀ j : Nat, j < 4 → M24.1 46 j 2 = M24.1 176 0 j) ∧ (∀ j : Nat, j < nb → M24.1 50 j 0 = M24.1 110 0 j) ∧ (∀ j : Nat, j < nb → M24.1 50 j 1 = M24.1 112 0 j) ∧ M24.1 1 0 2 = M24.1 60 0 5 ∧ M24.1 27 0 1 = M24.1 60 0 52 ∧ M24.1 27 0 3 = M24.1 60 0 55 ∧ (∀ j : Nat, M24.1 28 0 j = M24.1 151 0 j) ∧ M24.1 27 0 4 = M24.1 60 0 56 ∧ M24.1 21 0 5 = M24.1 60 0 44 ∧ (∀ j : Nat, M24.1 22 0 j = M24.1 140 0 j) ∧ (∀ j : Nat, M24.1 23 0 j = M24.1 141 0 j) ∧ (∀ j : Nat, M24.1 24 0 j = M24.1 142 0 j) ∧ (∀ j : Nat, M24.1 25 0 j = M24.1 143 0 j) ∧ (∀ j : Nat, j < nb → M24.1 50 j 4 = M24.1 115 0 j) ∧ (∀ s i : Nat, s < 4 → i < 40 → M24.1 47 s i = M24.1 177 0 (40 * s + i)) ∧ rt_WN M24 ∧ rt_PC nb M24 ∧ rt_FB M24 ∧ (∀ j : Nat, j < nb → rt_nkM M24 j = rt_nmM M24 j) ∧ rt_BN nb M24 ∧ (∀ k : Nat, (k : Int) < (M24.1 27 0 3).toInt → rt_TR M24 k) ∧ (M24.1 27 0 4).toInt < (M24.1 27 0 3).toInt ∧ (∀ k : Nat, (k : Int) < (M24.1 21 0 5).toInt → (M24.1 22 0 k).toInt < nb) := ⟨hr90, hr91, hr92, hr93, hr94, hr95, hr96, hr97, hr98, hr99, hr910, hr911, hr912, hr913, hr914, hr915, hr916, hr917, hr918, hs90, hs91, hs92, hs93, hs94, hs95, hs96, hs97, hs98⟩
  exact kk M24 _ _ hw hI hS hrel9 ls (lv_sub hl [0, 1, 2, 3] rfl)
set_option maxHeartbeats 1000000 in
set_option maxRecDepth 20000 in
theorem lb_36 {p : Program} {l : Launch} {e : Env} {s : State} {m : MethodId} {below : List Frame} {meth : Method} {c : Code} {D : va_G} {ad : Nat → Nat → Nat} {C : Nat → Nat → ClassId} {nb : Nat} {M : fm_M} {b L : Nat} {xs : Nat → Int32} {H : Heap} {locs : List Loc} {kc sl : Nat} {i : Int32} (C0 : lw_At p s m meth c b L xs) (hkc : kc ≤ 10000) (hsl : sl ≤ 300000) (hc : fm_Cx D ad C nb (fun q : Nat => s.heap.size ≤ q) s) (hw : fm_at D ad C nb M H) (hI : fm_I nb ad M) (hS : va_S (fun q : Nat => s.heap.size ≤ q) s.heap H locs) (hi : 0 ≤ i.toInt ∧ i.toInt + 6 ≤ L) (hL : L ≤ 3072) (hrel : M.1 0 0 10 = M.1 60 0 16 ∧ M.1 0 0 9 = M.1 60 0 0 ∧ M.1 0 0 11 = M.1 60 0 21 ∧ (∀ j : Nat, j < nb → M.1 50 j 2 = M.1 111 0 j) ∧ (∀ j : Nat, j < 4 → M.1 46 j 1 = M.1 175 0 j) ∧ (∀ j : Nat, j < 4 → M.1 46 j 2 = M.1 176 0 j) ∧ (∀ j : Nat, j < nb → M.1 50 j 0 = M.1 110 0 j) ∧ (∀ j : Nat, j < nb → M.1 50 j 1 = M.1 112 0 j) ∧ M.1 1 0 2 = M.1 60 0 5 ∧ M.1 27 0 1 = M.1 60 0 52 ∧ M.1 27 0 3 = M.1 60 0 55 ∧ (∀ j : Nat, M.1 28 0 j = M.1 151 0 j) ∧ M.1 27 0 4 = M.1 60 0 56 ∧ M.1 21 0 5 = M.1 60 0 44 ∧ (∀ j : Nat, M.1 22 0 j = M.1 140 0 j) ∧ (∀ j : Nat, M.1 23 0 j = M.1 141 0 j) ∧ (∀ j : Nat, M.1 24 0 j = M.1 142 0 j) ∧ (∀ j : Nat, M.1 25 0 j = M.1 143 0 j) ∧ (∀ j : Nat, j < nb → M.1 50 j 4 = M.1 115 0 j) ∧ (∀ s i : Nat, s < 4 → i < 40 → M.1 47 s i = M.1 177 0 (40 * s + i)) ∧ rt_WN M ∧ rt_PC nb M ∧ rt_FB M ∧ (∀ j : Nat, j < nb → rt_nkM M j = rt_nmM M j) ∧ rt_BN nb M ∧ (∀ k : Nat, (k : Int) < (M.1 27 0 3).toInt → rt_TR M k) ∧ (M.1 27 0 4).toInt < (M.1 27 0 3).toInt ∧ (∀ k : Nat, (k : Int) < (M.1 21 0 5).toInt → (M.1 22 0 k).toInt < nb)) (kk : ∀ (M1 : fm_M) (H1 : Heap) (locs1 : List Loc), fm_at D ad C nb M1 H1 → fm_I nb ad M1 → va_S (fun q : Nat => s.heap.size ≤ q) s.heap H1 locs1 → M1.1 0 0 10 = M1.1 60 0 16 ∧ M1.1 0 0 9 = M1.1 60 0 0 ∧ M1.1 0 0 11 = M1.1 60 0 21 ∧ (∀ j : Nat, j < nb → M1.1 50 j 2 = M1.1 111 0 j) ∧ (∀ j : Nat, j < 4 → M1.1 46 j 1 = M1.1 175 0 j) ∧ (∀ j : Nat, j < 4 → M1.1 46 j 2 = M1.1 176 0 j) ∧ (∀ j : Nat, j < nb → M1.1 50 j 0 = M1.1 110 0 j) ∧ (∀ j : Nat, j < nb → M1.1 50 j 1 = M1.1 112 0 j) ∧ M1.1 1 0 2 = M1.1 60 0 5 ∧ M1.1 27 0 1 = M1.1 60 0 52 ∧ M1.1 27 0 3 = M1.1 60 0 55 ∧ (∀ j : Nat, M1.1 28 0 j = M1.1 151 0 j) ∧ M1.1 27 0 4 = M1.1 60 0 56 ∧ M1.1 21 0 5 = M1.1 60 0 44 ∧ (∀ j : Nat, M1.1 22 0 j = M1.1 140 0 j) ∧ (∀ j : Nat, M1.1 23 0 j = M1.1 141 0 j) ∧ (∀ j : Nat, M1.1 24 0 j = M1.1 142 0 j) ∧ (∀ j : Nat, M1.1 25 0 j = M1.1 143 0 j) ∧ (∀ j : Nat, j < nb → M1.1 50 j 4 = M1.1 115 0 j) ∧ (∀ s i : Nat, s < 4 → i < 40 → M1.1 47 s i = M1.1 177 0 (40 * s + i)) ∧ rt_WN M1 ∧ rt_PC nb M1 ∧ rt_FB M1 ∧ (∀ j : Nat, j < nb → rt_nkM M1 j = rt_nmM M1 j) ∧ rt_BN nb M1 ∧ (∀ k : Nat, (k : Int) < (M1.1 27 0 3).toInt → rt_TR M1 k) ∧ (M1.1 27 0 4).toInt < (M1.1 27 0 3).toInt ∧ (∀ k : Nat, (k : Int) < (M1.1 21 0 5).toInt → (M1.1 22 0 k).toInt < nb) → ∀ ls : Array Slot, lv_has ls 4 [(3, .int i), (2, .ref (ad 60 0)), (1, .ref (ad 0 0)), (0, .ref b)] → W p l e room_1 s m #[Value.ref b] below meth c H1 locs1 kc sl (lw_Z below #[Value.ref b] s) (F0 m 1835 ls [])) (ls : Array Slot) (hl : lv_has ls 4 [(3, .int i), (2, .ref (ad 60 0)), (1, .ref (ad 0 0)), (0, .ref b)]) : W p l e room_1 s m #[Value.ref b] below meth c H locs kc sl (lw_Z below #[Value.ref b] s) (F0 m 1739 ls []) := by
  obtain ⟨hx, hb, hr, hml, hown, hts, hX, hbl, hlocks, hgv⟩ := id C0
  have hown : s.vm.findClass RL = some m.cls := hown
  have hb : c.code = cL_law := hb
  have hbA : ¬ (fun q : Nat => s.heap.size ≤ q) b := Nat.not_le.mpr hbl
  have hk1 : kc + 0 ≤ room_1.cells := by show kc + 0 ≤ 600000; omega
  have hs1 : sl + 0 ≤ room_1.slots := by show sl + 0 ≤ 7302250; omega
  have hI0 := hI
  have hPC : rt_PC nb M := hrel.2.2.2.2.2.2.2.2.2.2.2.2.2.2.2.2.2.2.2.2.2.1
  have hCI : rt_CI nb M := hPC.1
  have hTI : rt_TI nb M := hPC.2.1
  have hBN : rt_BN nb M := hrel.2.2.2.2.2.2.2.2.2.2.2.2.2.2.2.2.2.2.2.2.2.2.2.2.1
  refine lv_aload_n hx hb dL_law_1739 rfl (lv_at hl 2 rfl) ?_
  refine lv_aload_n hx hb dL_law_1740 rfl (lv_at hl 3 rfl) ?_
  refine lv_iload_n hx hb dL_law_1741 rfl (lv_at hl 0 rfl) ?_
  refine lv_iconst (v := 1) hx hb dL_law_1742 (by decide) ?_
  refine fx_iadd hx hb dL_law_1743 rfl zk_1 (by omega) (fun y1 ey1 ty1 => ?_)
  refine va_sld hx hb hX hbl hbA hS (fm_in (by omega)) dL_law_1744 ?_
  refine lv_topi (fun x2 ex2 => ?_)
  refine lv_aload_n hx hb dL_law_1745 rfl (lv_at hl 3 rfl) ?_
  refine lv_iload_n hx hb dL_law_1746 rfl (lv_at hl 0 rfl) ?_
  refine lv_iconst (v := 2) hx hb dL_law_1747 (by decide) ?_
  refine fx_iadd hx hb dL_law_1748 rfl zk_2 (by omega) (fun y3 ey3 ty3 => ?_)
  refine va_sld hx hb hX hbl hbA hS (fm_in (by omega)) dL_law_1749 ?_
  refine lv_topi (fun x4 ex4 => ?_)
  refine lv_aload_n hx hb dL_law_1750 rfl (lv_at hl 3 rfl) ?_
  refine lv_iload_n hx hb dL_law_1751 rfl (lv_at hl 0 rfl) ?_
  refine lv_iconst (v := 3) hx hb dL_law_1752 (by decide) ?_
  refine fx_iadd hx hb dL_law_1753 rfl zk_3 (by omega) (fun y5 ey5 ty5 => ?_)
  refine va_sld hx hb hX hbl hbA hS (fm_in (by omega)) dL_law_1754 ?_
  refine lv_topi (fun x6 ex6 => ?_)
  refine lv_aload_n hx hb dL_law_1755 rfl (lv_at hl 3 rfl) ?_
  refine lv_iload_n hx hb dL_law_1756 rfl (lv_at hl 0 rfl) ?_
  refine lv_iconst (v := 4) hx hb dL_law_1757 (by decide) ?_
  refine fx_iadd hx hb dL_law_1758 rfl zk_4 (by omega) (fun y7 ey7 ty7 => ?_)
  refine va_sld hx hb hX hbl hbA hS (fm_in (by omega)) dL_law_1759 ?_
  refine lv_topi (fun x8 ex8 => ?_)
  refine lv_aload_n hx hb dL_law_1760 rfl (lv_at hl 3 rfl) ?_
  refine lv_iload_n hx hb dL_law_1761 rfl (lv_at hl 0 rfl) ?_
  refine lv_iconst (v := 5) hx hb dL_law_1762 (by decide) ?_
  refine fx_iadd hx hb dL_law_1763 rfl zk_5 (by omega) (fun y9 ey9 ty9 => ?_)
  refine va_sld hx hb hX hbl hbA hS (fm_in (by omega)) dL_law_1764 ?_
  refine lv_topi (fun x10 ex10 => ?_)
  refine fm_ci (va_runV (As := [.int x2, .int x4, .int x6, .int x8, .int x10]) (rest := []) ⟨hx, hb, hml, hown, hts⟩ (fc_X11_fixes l D ad C nb M hI x2 x4 x6 x8 x10 (by assumption)) (cwV 5 hts gL_law_X11_fixes rfl rfl rfl (by decide +kernel) ⟨Nat.le_of_ble_eq_true rfl, Nat.le_of_ble_eq_true rfl⟩) (fm_preV hc hw hS kl_0 sh_0 rfl) rfl rfl hl.1 rfl (lv_room (Nat.le_of_ble_eq_true rfl)) dL_law_1765 ⟨hk1, hs1⟩) hS hc (fun r11 M12 H locs hr11 hw hS => ?_)
  obtain ⟨hI, hEM12, hr11⟩ := hr11
  refine lv_pop hx hb dL_law_1768 rfl ?_
  refine lv_aload_n hx hb dL_law_1769 rfl (lv_at hl 1 rfl) ?_
  refine lv_aload_n hx hb dL_law_1770 rfl (lv_at hl 3 rfl) ?_
  refine lv_iload_n hx hb dL_law_1771 rfl (lv_at hl 0 rfl) ?_
  refine lv_iconst (v := 1) hx hb dL_law_1772 (by decide) ?_
  refine fx_iadd hx hb dL_law_1773 rfl zk_1 (by omega) (fun y13 ey13 ty13 => ?_)
  refine va_sld hx hb hX hbl hbA hS (fm_in (by omega)) dL_law_1774 ?_
  refine lv_topi (fun x14 ex14 => ?_)
  have qx14 : x2 = x14 := by rw [ex14, ex2, ey13, ey1]
  clear ex14
  subst qx14
  refine lv_aload_n hx hb dL_law_1775 rfl (lv_at hl 3 rfl) ?_
  refine lv_iload_n hx hb dL_law_1776 rfl (lv_at hl 0 rfl) ?_
  refine lv_iconst (v := 2) hx hb dL_law_1777 (by decide) ?_
  refine fx_iadd hx hb dL_law_1778 rfl zk_2 (by omega) (fun y15 ey15 ty15 => ?_)
  refine va_sld hx hb hX hbl hbA hS (fm_in (by omega)) dL_law_1779 ?_
  refine lv_topi (fun x16 ex16 => ?_)
  have qx16 : x4 = x16 := by rw [ex16, ex4, ey15, ey3]
  clear ex16
  subst qx16
  refine lv_aload_n hx hb dL_law_1780 rfl (lv_at hl 3 rfl) ?_
  refine lv_iload_n hx hb dL_law_1781 rfl (lv_at hl 0 rfl) ?_
  refine lv_iconst (v := 3) hx hb dL_law_1782 (by decide) ?_
  refine fx_iadd hx hb dL_law_1783 rfl zk_3 (by omega) (fun y17 ey17 ty17 => ?_)
  refine va_sld hx hb hX hbl hbA hS (fm_in (by omega)) dL_law_1784 ?_
  refine lv_topi (fun x18 ex18 => ?_)
  have qx18 : x6 = x18 := by rw [ex18, ex6, ey17, ey5]
  clear ex18
  subst qx18
  refine lv_aload_n hx hb dL_law_1785 rfl (lv_at hl 3 rfl) ?_
  refine lv_iload_n hx hb dL_law_1786 rfl (lv_at hl 0 rfl) ?_
  refine lv_iconst (v := 4) hx hb dL_law_1787 (by decide) ?_
  refine fx_iadd hx hb dL_law_1788 rfl zk_4 (by omega) (fun y19 ey19 ty19 => ?_)
  refine va_sld hx hb hX hbl hbA hS (fm_in (by omega)) dL_law_1789 ?_
  refine lv_topi (fun x20 ex20 => ?_)
  have qx20 : x8 = x20 := by rw [ex20, ex8, ey19, ey7]
  clear ex20
  subst qx20
  refine lv_aload_n hx hb dL_law_1790 rfl (lv_at hl 3 rfl) ?_
  refine lv_iload_n hx hb dL_law_1791 rfl (lv_at hl 0 rfl) ?_
  refine lv_iconst (v := 5) hx hb dL_law_1792 (by decide) ?_
  refine fx_iadd hx hb dL_law_1793 rfl zk_5 (by omega) (fun y21 ey21 ty21 => ?_)
  refine va_sld hx hb hX hbl hbA hS (fm_in (by omega)) dL_law_1794 ?_
  refine lv_topi (fun x22 ex22 => ?_)
  have qx22 : x10 = x22 := by rw [ex22, ex10, ey21, ey9]
  clear ex22
  subst qx22
  refine fm_ci (va_runV (As := [.int x2, .int x4, .int x6, .int x8, .int x10]) (rest := []) ⟨hx, hb, hml, hown, hts⟩ (fc_X12_fixes l D ad C nb M12 hI x2 x4 x6 x8 x10) (cwV 5 hts gL_law_X12_fixes rfl rfl rfl (by decide +kernel) ⟨Nat.le_of_ble_eq_true rfl, Nat.le_of_ble_eq_true rfl⟩) (fm_preV hc hw hS kl_60 sh_60 rfl) rfl rfl hl.1 rfl (lv_room (Nat.le_of_ble_eq_true rfl)) dL_law_1795 ⟨hk1, hs1⟩) hS hc (fun r23 M24 H locs hr23 hw hS => ?_)
  obtain ⟨hI, hEM24, hr23⟩ := hr23
  refine lv_pop hx hb dL_law_1798 rfl ?_
  refine lv_goto (tgt := 1835) hx hb dL_law_1799 (by decide) ?_
  have f10 : (M12.1 60 0 16).toInt = (M.1 0 0 10).toInt := by rw [(hEM12 60 0 16 (by decide)).1, hrel.1]
  have f20 : (M24.1 0 0 10).toInt = (M12.1 0 0 10).toInt := by rw [(hEM24 0 0 10 (by decide)).1]
  have f30 : (M12.1 0 0 10).toInt = (M.1 0 0 10).toInt := by rw [(hEM12 0 0 10 (by decide)).1]
  have f40 : (M24.1 60 0 16).toInt = (M12.1 60 0 16).toInt := by rw [(hEM24 60 0 16 (by decide)).1]
  have f50 := hI0.bd (k := 0) bd_0_10
  have f11 : (M12.1 60 0 0).toInt = (M.1 0 0 9).toInt := by rw [(hEM12 60 0 0 (by decide)).1, hrel.2.1]
  have f21 : (M24.1 0 0 9).toInt = (M12.1 0 0 9).toInt := by rw [(hEM24 0 0 9 (by decide)).1]
  have f31 : (M12.1 0 0 9).toInt = (M.1 0 0 9).toInt := by rw [(hEM12 0 0 9 (by decide)).1]
  have f41 : (M24.1 60 0 0).toInt = (M12.1 60 0 0).toInt := by rw [(hEM24 60 0 0 (by decide)).1]
  have f51 := hI0.bd (k := 0) bd_0_9
  have f12 : (M12.1 60 0 21).toInt = (M.1 0 0 11).toInt := by rw [(hEM12 60 0 21 (by decide)).1, hrel.2.2.1]
  have f22 : (M24.1 0 0 11).toInt = (M12.1 0 0 11).toInt := by rw [(hEM24 0 0 11 (by decide)).1]
  have f52 := hI0.bd (k := 0) bd_0_11
  have f18 : (M12.1 60 0 5).toInt = (M.1 1 0 2).toInt := by rw [(hEM12 60 0 5 (by decide)).1, hrel.2.2.2.2.2.2.2.2.1]
  have f28 : (M24.1 1 0 2).toInt = (M12.1 1 0 2).toInt := by rw [(hEM24 1 0 2 (by decide)).1]
  have f38 : (M12.1 1 0 2).toInt = (M.1 1 0 2).toInt := by rw [(hEM12 1 0 2 (by decide)).1]
  have f48 : (M24.1 60 0 5).toInt = (M12.1 60 0 5).toInt := by rw [(hEM24 60 0 5 (by decide)).1]
  have f58 := hI0.bd (k := 0) bd_1_2
  have f19 : (M12.1 60 0 52).toInt = (M.1 27 0 1).toInt := by rw [(hEM12 60 0 52 (by decide)).1, hrel.2.2.2.2.2.2.2.2.2.1]
  have f29 : (M24.1 27 0 1).toInt = (M12.1 27 0 1).toInt := by rw [(hEM24 27 0 1 (by decide)).1]
  have f39 : (M12.1 27 0 1).toInt = (M.1 27 0 1).toInt := by rw [(hEM12 27 0 1 (by decide)).1]
  have f49 : (M24.1 60 0 52).toInt = (M12.1 60 0 52).toInt := by rw [(hEM24 60 0 52 (by decide)).1]
  have f59 := hI0.bd (k := 0) bd_27_1
  have f110 : (M12.1 60 0 55).toInt = (M.1 27 0 3).toInt := by rw [(hEM12 60 0 55 (by decide)).1, hrel.2.2.2.2.2.2.2.2.2.2.1]
  have f210 : (M24.1 27 0 3).toInt = (M12.1 27 0 3).toInt := by rw [(hEM24 27 0 3 (by decide)).1]
  have f310 : (M12.1 27 0 3).toInt = (M.1 27 0 3).toInt := by rw [(hEM12 27 0 3 (by decide)).1]
  have f410 : (M24.1 60 0 55).toInt = (M12.1 60 0 55).toInt := by rw [(hEM24 60 0 55 (by decide)).1]
  have f510 := hI0.bd (k := 0) bd_27_3
  have f112 : (M12.1 60 0 56).toInt = (M.1 27 0 4).toInt := by rw [(hEM12 60 0 56 (by decide)).1, hrel.2.2.2.2.2.2.2.2.2.2.2.2.1]
  have f212 : (M24.1 27 0 4).toInt = (M12.1 27 0 4).toInt := by rw [(hEM24 27 0 4 (by decide)).1]
  have f312 : (M12.1 27 0 4).toInt = (M.1 27 0 4).toInt := by rw [(hEM12 27 0 4 (by decide)).1]
  have f412 : (M24.1 60 0 56).toInt = (M12.1 60 0 56).toInt := by rw [(hEM24 60 0 56 (by decide)).1]
  have f512 := hI0.bd (k := 0) bd_27_4
  have f113 : (M12.1 60 0 44).toInt = (M.1 21 0 5).toInt := by rw [(hEM12 60 0 44 (by decide)).1, hrel.2.2.2.2.2.2.2.2.2.2.2.2.2.1]
  have f213 : (M24.1 21 0 5).toInt = (M12.1 21 0 5).toInt := by rw [(hEM24 21 0 5 (by decide)).1]
  have f313 : (M12.1 21 0 5).toInt = (M.1 21 0 5).toInt := by rw [(hEM12 21 0 5 (by decide)).1]
  have f413 : (M24.1 60 0 44).toInt = (M12.1 60 0 44).toInt := by rw [(hEM24 60 0 44 (by decide)).1]
  have f513 := hI0.bd (k := 0) bd_21_5
  have hn9 : (M.1 0 0 10).toInt = nb := hI0.2.2.2.2.2.2.1
  have g3p0 : ¬ (0 ≤ x2.toInt ∧ x2.toInt < nb) ∨ (M12.1 111 0 x2.toNatClampNeg).toInt = (M.1 50 x2.toNatClampNeg 2).toInt := by
    by_cases h9 : 0 ≤ x2.toInt ∧ x2.toInt < nb
    · exact Or.inr (by rw [(hEM12 111 0 x2.toNatClampNeg (by rw [cd_111]; decide)).1, hrel.2.2.2.1 _ (zi_cln h9)])
    · exact Or.inl h9
  have g4p1 : ¬ (0 ≤ x4.toInt ∧ x4.toInt < 4) ∨ (M12.1 175 0 x4.toNatClampNeg).toInt = (M.1 46 x4.toNatClampNeg 1).toInt := by
    by_cases h9 : 0 ≤ x4.toInt ∧ x4.toInt < 4
    · exact Or.inr (by rw [(hEM12 175 0 x4.toNatClampNeg (by rw [cd_175]; decide)).1, hrel.2.2.2.2.1 _ (zi_cln h9)])
    · exact Or.inl h9
  have g5p1 : ¬ (0 ≤ x4.toInt ∧ x4.toInt < 4) ∨ (M12.1 176 0 x4.toNatClampNeg).toInt = (M.1 46 x4.toNatClampNeg 2).toInt := by
    by_cases h9 : 0 ≤ x4.toInt ∧ x4.toInt < 4
    · exact Or.inr (by rw [(hEM12 176 0 x4.toNatClampNeg (by rw [cd_176]; decide)).1, hrel.2.2.2.2.2.1 _ (zi_cln h9)])
    · exact Or.inl h9
  have e4 : r11.toInt = r23.toInt ∧ (M12.1 0 0 11).toInt = (M24.1 60 0 21).toInt := by
    rcases hr11 with ⟨a0, a1, a2, a3⟩ | ⟨a0, a1, a2, a3, a4⟩ | ⟨a0, a1, a2, a3, a4, a5⟩ | ⟨a0, a1, a2, a3, a4⟩
    · rcases hr23 with ⟨g0, g1, g2, g3⟩ | ⟨g0, g1, g2, g3, g4⟩ | ⟨g0, g1, g2, g3, g4, g5⟩ | ⟨g0, g1, g2, g3, g4⟩
      · omega
      · exfalso; omega
      · exfalso; omega
      · exfalso; omega
    · rcases hr23 with ⟨g0, g1, g2, g3⟩ | ⟨g0, g1, g2, g3, g4⟩ | ⟨g0, g1, g2, g3, g4, g5⟩ | ⟨g0, g1, g2, g3, g4⟩
      · exfalso; omega
      · omega
      · exfalso; omega
      · exfalso; omega
    · rcases hr23 with ⟨g0, g1, g2, g3⟩ | ⟨g0, g1, g2, g3, g4⟩ | ⟨g0, g1, g2, g3, g4, g5⟩ | ⟨g0, g1, g2, g3, g4⟩
      · exfalso; omega
      · exfalso; omega
      · omega
      · exfalso; omega
    · rcases hr23 with ⟨g0, g1, g2, g3⟩ | ⟨g0, g1, g2, g3, g4⟩ | ⟨g0, g1, g2, g3, g4, g5⟩ | ⟨g0, g1, g2, g3, g4⟩
      · exfalso; omega
      · exfalso; omega
      · exfalso; omega
      · have h8 : x2.toNatClampNeg < nb := zi_cln ⟨a0.1, a0.2.1⟩
        have h7 : x4.toNatClampNeg < 4 := zi_cln (by omega)
        have kI : rt_itc M x4.toNatClampNeg = rt_itm M12 x4.toNatClampNeg := funext fun x => by unfold rt_itc rt_itm; by_cases hx : 0 ≤ x ∧ x < 40; rw [if_pos hx, if_pos hx, (hEM12 177 0 _ (by rw [cd_177]; decide)).1, hrel.2.2.2.2.2.2.2.2.2.2.2.2.2.2.2.2.2.2.2.1 x4.toNatClampNeg x.toNat h7 (by omega)]; rw [if_neg hx, if_neg hx]
        have q1 : (M.1 46 x4.toNatClampNeg 2).toInt = (M12.1 176 0 x4.toNatClampNeg).toInt := by rw [(hEM12 176 0 x4.toNatClampNeg (by rw [cd_176]; decide)).1, hrel.2.2.2.2.2.1 _ h7]
        have q2 : (M.1 50 x2.toNatClampNeg 2).toInt = (M12.1 111 0 x2.toNatClampNeg).toInt := by rw [(hEM12 111 0 x2.toNatClampNeg (by rw [cd_111]; decide)).1, hrel.2.2.2.1 _ h8]
        have q3 : (M.1 0 0 9).toInt = (M12.1 60 0 0).toInt := by rw [(hEM12 60 0 0 (by decide)).1, hrel.2.1]
        have q4 : (M.1 0 0 11).toInt = (M12.1 60 0 21).toInt := by rw [(hEM12 60 0 21 (by decide)).1, hrel.2.2.1]
        rw [kI, q1, q2, q3, q4] at a3
        exact ⟨(rt_fxN_u a3 g3).1, (rt_fxN_u a3 g3).2.1⟩
  have e3 : (0 : Int) = 0 ∧ (M24.1 0 0 11).toInt = (M24.1 60 0 21).toInt := ⟨rfl, by rw [(hEM24 0 0 11 (by decide)).1]; exact e4.2⟩
  have hr90 : M24.1 0 0 10 = M24.1 60 0 16 := by rw [(hEM24 0 0 10 (by decide)).1, (hEM12 0 0 10 (by decide)).1, (hEM24 60 0 16 (by decide)).1, (hEM12 60 0 16 (by decide)).1]; exact hrel.1
  have hr91 : M24.1 0 0 9 = M24.1 60 0 0 := by rw [(hEM24 0 0 9 (by decide)).1, (hEM12 0 0 9 (by decide)).1, (hEM24 60 0 0 (by decide)).1, (hEM12 60 0 0 (by decide)).1]; exact hrel.2.1
  have hr92 : M24.1 0 0 11 = M24.1 60 0 21 := (fa_eq _ _).mpr e3.2
  have hr93 : (∀ j : Nat, j < nb → M24.1 50 j 2 = M24.1 111 0 j) := fun j hj => by rw [(hEM24 50 j 2 (by decide)).1, (hEM12 50 j 2 (by decide)).1, (hEM24 111 0 j (by rw [cd_111]; decide)).1, (hEM12 111 0 j (by rw [cd_111]; decide)).1]; exact hrel.2.2.2.1 j hj
  have hr94 : (∀ j : Nat, j < 4 → M24.1 46 j 1 = M24.1 175 0 j) := fun j hj => by rw [(hEM24 46 j 1 (by decide)).1, (hEM12 46 j 1 (by decide)).1, (hEM24 175 0 j (by rw [cd_175]; decide)).1, (hEM12 175 0 j (by rw [cd_175]; decide)).1]; exact hrel.2.2.2.2.1 j hj
  have hr95 : (∀ j : Nat, j < 4 → M24.1 46 j 2 = M24.1 176 0 j) := fun j hj => by rw [(hEM24 46 j 2 (by decide)).1, (hEM12 46 j 2 (by decide)).1, (hEM24 176 0 j (by rw [cd_176]; decide)).1, (hEM12 176 0 j (by rw [cd_176]; decide)).1]; exact hrel.2.2.2.2.2.1 j hj
  have hr96 : (∀ j : Nat, j < nb → M24.1 50 j 0 = M24.1 110 0 j) := fun j hj => by rw [(hEM24 50 j 0 (by decide)).1, (hEM12 50 j 0 (by decide)).1, (hEM24 110 0 j (by rw [cd_110]; decide)).1, (hEM12 110 0 j (by rw [cd_110]; decide)).1]; exact hrel.2.2.2.2.2.2.1 j hj
  have hr97 : (∀ j : Nat, j < nb → M24.1 50 j 1 = M24.1 112 0 j) := fun j hj => by rw [(hEM24 50 j 1 (by decide)).1, (hEM12 50 j 1 (by decide)).1, (hEM24 112 0 j (by rw [cd_112]; decide)).1, (hEM12 112 0 j (by rw [cd_112]; decide)).1]; exact hrel.2.2.2.2.2.2.2.1 j hj
  have hr98 : M24.1 1 0 2 = M24.1 60 0 5 := by rw [(hEM24 1 0 2 (by decide)).1, (hEM12 1 0 2 (by decide)).1, (hEM24 60 0 5 (by decide)).1, (hEM12 60 0 5 (by decide)).1]; exact hrel.2.2.2.2.2.2.2.2.1
  have hr99 : M24.1 27 0 1 = M24.1 60 0 52 := by rw [(hEM24 27 0 1 (by decide)).1, (hEM12 27 0 1 (by decide)).1, (hEM24 60 0 52 (by decide)).1, (hEM12 60 0 52 (by decide)).1]; exact hrel.2.2.2.2.2.2.2.2.2.1
  have hr910 : M24.1 27 0 3 = M24.1 60 0 55 := by rw [(hEM24 27 0 3 (by decide)).1, (hEM12 27 0 3 (by decide)).1, (hEM24 60 0 55 (by decide)).1, (hEM12 60 0 55 (by decide)).1]; exact hrel.2.2.2.2.2.2.2.2.2.2.1
  have hr911 : (∀ j : Nat, M24.1 28 0 j = M24.1 151 0 j) := fun j => by rw [(hEM24 28 0 j (by rw [cd_28]; decide)).1, (hEM12 28 0 j (by rw [cd_28]; decide)).1, (hEM24 151 0 j (by rw [cd_151]; decide)).1, (hEM12 151 0 j (by rw [cd_151]; decide)).1]; exact hrel.2.2.2.2.2.2.2.2.2.2.2.1 j
  have hr912 : M24.1 27 0 4 = M24.1 60 0 56 := by rw [(hEM24 27 0 4 (by decide)).1, (hEM12 27 0 4 (by decide)).1, (hEM24 60 0 56 (by decide)).1, (hEM12 60 0 56 (by decide)).1]; exact hrel.2.2.2.2.2.2.2.2.2.2.2.2.1
  have hr913 : M24.1 21 0 5 = M24.1 60 0 44 := by rw [(hEM24 21 0 5 (by decide)).1, (hEM12 21 0 5 (by decide)).1, (hEM24 60 0 44 (by decide)).1, (hEM12 60 0 44 (by decide)).1]; exact hrel.2.2.2.2.2.2.2.2.2.2.2.2.2.1
  have hr914 : (∀ j : Nat, M24.1 22 0 j = M24.1 140 0 j) := fun j => by rw [(hEM24 22 0 j (by rw [cd_22]; decide)).1, (hEM12 22 0 j (by rw [cd_22]; decide)).1, (hEM24 140 0 j (by rw [cd_140]; decide)).1, (hEM12 140 0 j (by rw [cd_140]; decide)).1]; exact hrel.2.2.2.2.2.2.2.2.2.2.2.2.2.2.1 j
  have hr915 : (∀ j : Nat, M24.1 23 0 j = M24.1 141 0 j) := fun j => by rw [(hEM24 23 0 j (by rw [cd_23]; decide)).1, (hEM12 23 0 j (by rw [cd_23]; decide)).1, (hEM24 141 0 j (by rw [cd_141]; decide)).1, (hEM12 141 0 j (by rw [cd_141]; decide)).1]; exact hrel.2.2.2.2.2.2.2.2.2.2.2.2.2.2.2.1 j
  have hr916 : (∀ j : Nat, M24.1 24 0 j = M24.1 142 0 j) := fun j => by rw [(hEM24 24 0 j (by rw [cd_24]; decide)).1, (hEM12 24 0 j (by rw [cd_24]; decide)).1, (hEM24 142 0 j (by rw [cd_142]; decide)).1, (hEM12 142 0 j (by rw [cd_142]; decide)).1]; exact hrel.2.2.2.2.2.2.2.2.2.2.2.2.2.2.2.2.1 j
  have hr917 : (∀ j : Nat, M24.1 25 0 j = M24.1 143 0 j) := fun j => by rw [(hEM24 25 0 j (by rw [cd_25]; decide)).1, (hEM12 25 0 j (by rw [cd_25]; decide)).1, (hEM24 143 0 j (by rw [cd_143]; decide)).1, (hEM12 143 0 j (by rw [cd_143]; decide)).1]; exact hrel.2.2.2.2.2.2.2.2.2.2.2.2.2.2.2.2.2.1 j
  have hr918 : (∀ j : Nat, j < nb → M24.1 50 j 4 = M24.1 115 0 j) := fun j hj => by rw [(hEM24 50 j 4 (by decide)).1, (hEM12 50 j 4 (by decide)).1, (hEM24 115 0 j (by rw [cd_115]; decide)).1, (hEM12 115 0 j (by rw [cd_115]; decide)).1]; exact hrel.2.2.2.2.2.2.2.2.2.2.2.2.2.2.2.2.2.2.1 j hj
  have hs90 : (∀ s i : Nat, s < 4 → i < 40 → M24.1 47 s i = M24.1 177 0 (40 * s + i)) := fun s i hs hi => by rw [(hEM24 47 s i (by rw [cd_47]; decide)).1, (hEM12 47 s i (by rw [cd_47]; decide)).1, (hEM24 177 0 (40 * s + i) (by rw [cd_177]; decide)).1, (hEM12 177 0 (40 * s + i) (by rw [cd_177]; decide)).1]; exact hrel.2.2.2.2.2.2.2.2.2.2.2.2.2.2.2.2.2.2.2.1 s i hs hi
  have hs91_1 : rt_WN M12 := rt_WN_same hEM12 (by decide) hrel.2.2.2.2.2.2.2.2.2.2.2.2.2.2.2.2.2.2.2.2.1
  have hs91 : rt_WN M24 := rt_WN_same hEM24 (by decide) hs91_1
  have hs92_1 : rt_PC nb M12 := by
    rcases hr11 with ⟨a0, a1, a2, a3⟩ | ⟨a0, a1, a2, a3, a4⟩ | ⟨a0, a1, a2, a3, a4, a5⟩ | ⟨a0, a1, a2, a3, a4⟩
    · rw [a3]; exact hrel.2.2.2.2.2.2.2.2.2.2.2.2.2.2.2.2.2.2.2.2.2.1
    · rw [a4]; exact hrel.2.2.2.2.2.2.2.2.2.2.2.2.2.2.2.2.2.2.2.2.2.1
    · rw [a5]; exact hrel.2.2.2.2.2.2.2.2.2.2.2.2.2.2.2.2.2.2.2.2.2.1
    · exact a4
  have hs92 : rt_PC nb M24 := rt_PC_same hEM24 (by decide) hs92_1
  have hs93_1 : rt_FB M12 := rt_FB_same hEM12 (by decide) hrel.2.2.2.2.2.2.2.2.2.2.2.2.2.2.2.2.2.2.2.2.2.2.1
  have hs93 : rt_FB M24 := by
    rcases hr23 with ⟨g0, g1, g2, g3⟩ | ⟨g0, g1, g2, g3, g4⟩ | ⟨g0, g1, g2, g3, g4, g5⟩ | ⟨g0, g1, g2, g3, g4⟩
    · rw [g3]; exact hs93_1
    · rw [g4]; exact hs93_1
    · rw [g5]; exact hs93_1
    · exact g4 hs93_1
  have hs94 : (∀ j : Nat, j < nb → rt_nkM M24 j = rt_nmM M24 j) := by
    rcases hr11 with ⟨a0, a1, a2, a3⟩ | ⟨a0, a1, a2, a3, a4⟩ | ⟨a0, a1, a2, a3, a4, a5⟩ | ⟨a0, a1, a2, a3, a4⟩
    · rcases hr23 with ⟨g0, g1, g2, g3⟩ | ⟨g0, g1, g2, g3, g4⟩ | ⟨g0, g1, g2, g3, g4, g5⟩ | ⟨g0, g1, g2, g3, g4⟩
      · rw [g3, a3]; exact hrel.2.2.2.2.2.2.2.2.2.2.2.2.2.2.2.2.2.2.2.2.2.2.2.1
      · exfalso; omega
      · exfalso; omega
      · exfalso; omega
    · rcases hr23 with ⟨g0, g1, g2, g3⟩ | ⟨g0, g1, g2, g3, g4⟩ | ⟨g0, g1, g2, g3, g4, g5⟩ | ⟨g0, g1, g2, g3, g4⟩
      · exfalso; omega
      · rw [g4, a4]; exact hrel.2.2.2.2.2.2.2.2.2.2.2.2.2.2.2.2.2.2.2.2.2.2.2.1
      · exfalso; omega
      · exfalso; omega
    · rcases hr23 with ⟨g0, g1, g2, g3⟩ | ⟨g0, g1, g2, g3, g4⟩ | ⟨g0, g1, g2, g3, g4, g5⟩ | ⟨g0, g1, g2, g3, g4⟩
      · exfalso; omega
      · exfalso; omega
      · rw [g5, a5]; exact hrel.2.2.2.2.2.2.2.2.2.2.2.2.2.2.2.2.2.2.2.2.2.2.2.1
      · exfalso; omega
    · rcases hr23 with ⟨g0, g1, g2, g3⟩ | ⟨g0, g1, g2, g3, g4⟩ | ⟨g0, g1, g2, g3, g4, g5⟩ | ⟨g0, g1, g2, g3, g4⟩
      · exfalso; omega
      · exfalso; omega
      · exfalso; omega
      · have h8 : x2.toNatClampNeg < nb := zi_cln ⟨a0.1, a0.2.1⟩
        have h7 : x4.toNatClampNeg < 4 := zi_cln (by omega)
        have kI : rt_itc M x4.toNatClampNeg = rt_itm M12 x4.toNatClampNeg := funext fun x => by unfold rt_itc rt_itm; by_cases hx : 0 ≤ x ∧ x < 40; rw [if_pos hx, if_pos hx, (hEM12 177 0 _ (by rw [cd_177]; decide)).1, hrel.2.2.2.2.2.2.2.2.2.2.2.2.2.2.2.2.2.2.2.1 x4.toNatClampNeg x.toNat h7 (by omega)]; rw [if_neg hx, if_neg hx]
        have q1 : (M.1 46 x4.toNatClampNeg 2).toInt = (M12.1 176 0 x4.toNatClampNeg).toInt := by rw [(hEM12 176 0 x4.toNatClampNeg (by rw [cd_176]; decide)).1, hrel.2.2.2.2.2.1 _ h7]
        have q2 : (M.1 50 x2.toNatClampNeg 2).toInt = (M12.1 111 0 x2.toNatClampNeg).toInt := by rw [(hEM12 111 0 x2.toNatClampNeg (by rw [cd_111]; decide)).1, hrel.2.2.2.1 _ h8]
        have q3 : (M.1 0 0 9).toInt = (M12.1 60 0 0).toInt := by rw [(hEM12 60 0 0 (by decide)).1, hrel.2.1]
        have q4 : (M.1 0 0 11).toInt = (M12.1 60 0 21).toInt := by rw [(hEM12 60 0 21 (by decide)).1, hrel.2.2.1]
        rw [kI, q1, q2, q3, q4] at a3
        obtain ⟨_, _, k, n1, n2⟩ := rt_fxN_u a3 g3
        rw [rt_nkM_same hEM24 (by decide)]
        exact rt_NK_all n1 n2 (by rw [rt_nmM_same hEM12 (by decide)]; exact hrel.2.2.2.2.2.2.2.2.2.2.2.2.2.2.2.2.2.2.2.2.2.2.2.1)
  have hs95_1 : rt_BN nb M12 := rt_BN_eq (Int.le_of_eq (congrArg Int32.toInt (hEM12 0 0 9 (by decide)).1.symm)) (fun j => (hEM12 50 j 2 (by decide)).1) hrel.2.2.2.2.2.2.2.2.2.2.2.2.2.2.2.2.2.2.2.2.2.2.2.2.1
  have hs95 : rt_BN nb M24 := rt_BN_eq (Int.le_of_eq (congrArg Int32.toInt (hEM24 0 0 9 (by decide)).1.symm)) (fun j => (hEM24 50 j 2 (by decide)).1) hs95_1
  have hs96_1 : (∀ k : Nat, (k : Int) < (M12.1 27 0 3).toInt → rt_TR M12 k) := fun k hk => rt_TR_same hEM12 (by decide) (hrel.2.2.2.2.2.2.2.2.2.2.2.2.2.2.2.2.2.2.2.2.2.2.2.2.2.1 k (by rw [← (hEM12 27 0 3 (by decide)).1]; exact hk))
  have hs96 : (∀ k : Nat, (k : Int) < (M24.1 27 0 3).toInt → rt_TR M24 k) := fun k hk => rt_TR_same hEM24 (by decide) (hs96_1 k (by rw [← (hEM24 27 0 3 (by decide)).1]; exact hk))
  have hs97 : (M24.1 27 0 4).toInt < (M24.1 27 0 3).toInt := by rw [(hEM24 27 0 4 (by decide)).1, (hEM12 27 0 4 (by decide)).1, (hEM24 27 0 3 (by decide)).1, (hEM12 27 0 3 (by decide)).1]; exact hrel.2.2.2.2.2.2.2.2.2.2.2.2.2.2.2.2.2.2.2.2.2.2.2.2.2.2.1
  have hs98_1 : (∀ k : Nat, (k : Int) < (M12.1 21 0 5).toInt → (M12.1 22 0 k).toInt < nb) := fun k hk => by rw [(hEM12 22 0 k (by rw [cd_22]; decide)).1]; exact hrel.2.2.2.2.2.2.2.2.2.2.2.2.2.2.2.2.2.2.2.2.2.2.2.2.2.2.2 k (by rw [← (hEM12 21 0 5 (by decide)).1]; exact hk)
  have hs98 : (∀ k : Nat, (k : Int) < (M24.1 21 0 5).toInt → (M24.1 22 0 k).toInt < nb) := fun k hk => by rw [(hEM24 22 0 k (by rw [cd_22]; decide)).1]; exact hs98_1 k (by rw [← (hEM24 21 0 5 (by decide)).1]; exact hk)
  have hrel9 : M24.1 0 0 10 = M24.1 60 0 16 ∧ M24.1 0 0 9 = M24.1 60 0 0 ∧ M24.1 0 0 11 = M24.1 60 0 21 ∧ (∀ j : Nat, j < nb → M24.1 50 j 2 = M24.1 111 0 j) ∧ (∀ j : Nat, j < 4 → M24.1 46 j 1 = M24.1 175 0 j) ∧ (∀ j : Nat, j < 4 → M24.1 46 j 2 = M24.1 176 0 j) ∧ (∀ j : Nat, j < nb → M24.1 50 j 0 = M24.1 110 0 j) ∧ (∀ j : Nat, j < nb → M24.1 50 j 1 = M24.1 112 0 j) ∧ M24.1 1 0 2 = M24.1 60 0 5 ∧ M24.1 27 0 1 = M24.1 60 0 52 ∧ M24.1 27 0 3 = M24.1 60 0 55 ∧ (∀ j : Nat, M24.1 28 0 j = M24.1 151 0 j) ∧ M24.1 27 0 4 = M24.1 60 0 56 ∧ M24.1 21 0 5 = M24.1 60 0 44 ∧ (∀ j : Nat, M24.1 22 0 j = M24.1 140 0 j) ∧ (∀ j : Nat, M24.1 23 0 j = M24.1 141 0 j) ∧ (∀ j : Nat, M24.1 24 0 j = M24.1 142 0 j) ∧ (∀ j : Nat, M24.1 25 0 j = M24.1 143 0 j) ∧ (∀ j : Nat, j < nb → M24.1 50 j 4 = M24.1 115 0 j) ∧ (∀ s i : Nat, s < 4 → i < 40 → M24.1 47 s i = M24.1 177 0 (40 * s + i)) ∧ rt_WN M24 ∧ rt_PC nb M24 ∧ rt_FB M24 ∧ (∀ j : Nat, j < nb → rt_nkM M24 j = rt_nmM M24 j) ∧ rt_BN nb M24 ∧ (∀ k : Nat, (k : Int) < (M24.1 27 0 3).toInt → rt_TR M24 k) ∧ (M24.1 27 0 4).toInt < (M24.1 27 0 3).toInt ∧ (∀ k : Nat, (k : Int) < (M24.1 21 0 5).toInt → (M24.1 22 0 k).toInt < nb) := ⟨hr90, hr91, hr92, hr93, hr94, hr95, hr96, hr97, hr98, hr99, hr910, hr911, hr912, hr913, hr914, hr915, hr916, hr917, hr918, hs90, hs91, hs92, hs93, hs94, hs95, hs96, hs97, hs98⟩
  exact kk M24 _ _ hw hI hS hrel9 ls (lv_sub hl [0, 1, 2, 3] rfl)
set_option maxHeartbeats 1000000 in
set_option maxRecDepth 20000 in
theorem lb_37 {p : Program} {l : Launch} {e : Env} {s : State} {m : MethodId} {below : List Frame} {meth : Method} {c : Code} {D : va_G} {ad : Nat → Nat → Nat} {C : Nat → Nat → ClassId} {nb : Nat} {M : fm_M} {b L : Nat} {xs : Nat → Int32} {H : Heap} {locs : List Loc} {kc sl : Nat} {i : Int32} (C0 : lw_At p s m meth c b L xs) (hkc : kc ≤ 10000) (hsl : sl ≤ 300000) (hc : fm_Cx D ad C nb (fun q : Nat => s.heap.size ≤ q) s) (hw : fm_at D ad C nb M H) (hI : fm_I nb ad M) (hS : va_S (fun q : Nat => s.heap.size ≤ q) s.heap H locs) (hi : 0 ≤ i.toInt ∧ i.toInt + 6 ≤ L) (hL : L ≤ 3072) (hrel : M.1 0 0 10 = M.1 60 0 16 ∧ M.1 0 0 9 = M.1 60 0 0 ∧ M.1 0 0 11 = M.1 60 0 21 ∧ (∀ j : Nat, j < nb → M.1 50 j 2 = M.1 111 0 j) ∧ (∀ j : Nat, j < 4 → M.1 46 j 1 = M.1 175 0 j) ∧ (∀ j : Nat, j < 4 → M.1 46 j 2 = M.1 176 0 j) ∧ (∀ j : Nat, j < nb → M.1 50 j 0 = M.1 110 0 j) ∧ (∀ j : Nat, j < nb → M.1 50 j 1 = M.1 112 0 j) ∧ M.1 1 0 2 = M.1 60 0 5 ∧ M.1 27 0 1 = M.1 60 0 52 ∧ M.1 27 0 3 = M.1 60 0 55 ∧ (∀ j : Nat, M.1 28 0 j = M.1 151 0 j) ∧ M.1 27 0 4 = M.1 60 0 56 ∧ M.1 21 0 5 = M.1 60 0 44 ∧ (∀ j : Nat, M.1 22 0 j = M.1 140 0 j) ∧ (∀ j : Nat, M.1 23 0 j = M.1 141 0 j) ∧ (∀ j : Nat, M.1 24 0 j = M.1 142 0 j) ∧ (∀ j : Nat, M.1 25 0 j = M.1 143 0 j) ∧ (∀ j : Nat, j < nb → M.1 50 j 4 = M.1 115 0 j) ∧ (∀ s i : Nat, s < 4 → i < 40 → M.1 47 s i = M.1 177 0 (40 * s + i)) ∧ rt_WN M ∧ rt_PC nb M ∧ rt_FB M ∧ (∀ j : Nat, j < nb → rt_nkM M j = rt_nmM M j) ∧ rt_BN nb M ∧ (∀ k : Nat, (k : Int) < (M.1 27 0 3).toInt → rt_TR M k) ∧ (M.1 27 0 4).toInt < (M.1 27 0 3).toInt ∧ (∀ k : Nat, (k : Int) < (M.1 21 0 5).toInt → (M.1 22 0 k).toInt < nb)) (kk : ∀ (M1 : fm_M) (H1 : Heap) (locs1 : List Loc), fm_at D ad C nb M1 H1 → fm_I nb ad M1 → va_S (fun q : Nat => s.heap.size ≤ q) s.heap H1 locs1 → M1.1 0 0 10 = M1.1 60 0 16 ∧ M1.1 0 0 9 = M1.1 60 0 0 ∧ M1.1 0 0 11 = M1.1 60 0 21 ∧ (∀ j : Nat, j < nb → M1.1 50 j 2 = M1.1 111 0 j) ∧ (∀ j : Nat, j < 4 → M1.1 46 j 1 = M1.1 175 0 j) ∧ (∀ j : Nat, j < 4 → M1.1 46 j 2 = M1.1 176 0 j) ∧ (∀ j : Nat, j < nb → M1.1 50 j 0 = M1.1 110 0 j) ∧ (∀ j : Nat, j < nb → M1.1 50 j 1 = M1.1 112 0 j) ∧ M1.1 1 0 2 = M1.1 60 0 5 ∧ M1.1 27 0 1 = M1.1 60 0 52 ∧ M1.1 27 0 3 = M1.1 60 0 55 ∧ (∀ j : Nat, M1.1 28 0 j = M1.1 151 0 j) ∧ M1.1 27 0 4 = M1.1 60 0 56 ∧ M1.1 21 0 5 = M1.1 60 0 44 ∧ (∀ j : Nat, M1.1 22 0 j = M1.1 140 0 j) ∧ (∀ j : Nat, M1.1 23 0 j = M1.1 141 0 j) ∧ (∀ j : Nat, M1.1 24 0 j = M1.1 142 0 j) ∧ (∀ j : Nat, M1.1 25 0 j = M1.1 143 0 j) ∧ (∀ j : Nat, j < nb → M1.1 50 j 4 = M1.1 115 0 j) ∧ (∀ s i : Nat, s < 4 → i < 40 → M1.1 47 s i = M1.1 177 0 (40 * s + i)) ∧ rt_WN M1 ∧ rt_PC nb M1 ∧ rt_FB M1 ∧ (∀ j : Nat, j < nb → rt_nkM M1 j = rt_nmM M1 j) ∧ rt_BN nb M1 ∧ (∀ k : Nat, (k : Int) < (M1.1 27 0 3).toInt → rt_TR M1 k) ∧ (M1.1 27 0 4).toInt < (M1.1 27 0 3).toInt ∧ (∀ k : Nat, (k : Int) < (M1.1 21 0 5).toInt → (M1.1 22 0 k).toInt < nb) → ∀ ls : Array Slot, lv_has ls 4 [(3, .int i), (2, .ref (ad 60 0)), (1, .ref (ad 0 0)), (0, .ref b)] → W p l e room_1 s m #[Value.ref b] below meth c H1 locs1 kc sl (lw_Z below #[Value.ref b] s) (F0 m 1835 ls [])) (ls : Array Slot) (hl : lv_has ls 4 [(3, .int i), (2, .ref (ad 60 0)), (1, .ref (ad 0 0)), (0, .ref b)]) : W p l e room_1 s m #[Value.ref b] below meth c H locs kc sl (lw_Z below #[Value.ref b] s) (F0 m 1802 ls []) := by
  obtain ⟨hx, hb, hr, hml, hown, hts, hX, hbl, hlocks, hgv⟩ := id C0
  have hown : s.vm.findClass RL = some m.cls := hown
  have hb : c.code = cL_law := hb
  have hbA : ¬ (fun q : Nat => s.heap.size ≤ q) b := Nat.not_le.mpr hbl
  have hk1 : kc + 0 ≤ room_1.cells := by show kc + 0 ≤ 600000; omega
  have hs1 : sl + 0 ≤ room_1.slots := by show sl + 0 ≤ 7302250; omega
  have hI0 := hI
  have hPC : rt_PC nb M := hrel.2.2.2.2.2.2.2.2.2.2.2.2.2.2.2.2.2.2.2.2.2.1
  have hCI : rt_CI nb M := hPC.1
  have hTI : rt_TI nb M := hPC.2.1
  have hBN : rt_BN nb M := hrel.2.2.2.2.2.2.2.2.2.2.2.2.2.2.2.2.2.2.2.2.2.2.2.2.1
  refine lv_aload_n hx hb dL_law_1802 rfl (lv_at hl 2 rfl) ?_
  refine lv_aload_n hx hb dL_law_1803 rfl (lv_at hl 3 rfl) ?_
  refine lv_iload_n hx hb dL_law_1804 rfl (lv_at hl 0 rfl) ?_
  refine lv_iconst (v := 1) hx hb dL_law_1805 (by decide) ?_
  refine fx_iadd hx hb dL_law_1806 rfl zk_1 (by omega) (fun y1 ey1 ty1 => ?_)
  refine va_sld hx hb hX hbl hbA hS (fm_in (by omega)) dL_law_1807 ?_
  refine lv_topi (fun x2 ex2 => ?_)
  refine lv_aload_n hx hb dL_law_1808 rfl (lv_at hl 3 rfl) ?_
  refine lv_iload_n hx hb dL_law_1809 rfl (lv_at hl 0 rfl) ?_
  refine lv_iconst (v := 2) hx hb dL_law_1810 (by decide) ?_
  refine fx_iadd hx hb dL_law_1811 rfl zk_2 (by omega) (fun y3 ey3 ty3 => ?_)
  refine va_sld hx hb hX hbl hbA hS (fm_in (by omega)) dL_law_1812 ?_
  refine lv_topi (fun x4 ex4 => ?_)
  refine vp_callSi (va_Run.run (va_runV (As := [.int x2, .int x4]) (rest := []) ⟨hx, hb, hml, hown, hts⟩ (fc_X11_taken l D ad C nb M hI x2 x4) (cwV 2 hts gL_law_X11_taken rfl rfl rfl (by decide +kernel) ⟨Nat.le_of_ble_eq_true rfl, Nat.le_of_ble_eq_true rfl⟩) (fm_preV hc hw hS kl_0 sh_0 rfl) rfl rfl hl.1 rfl (lv_room (Nat.le_of_ble_eq_true rfl)) dL_law_1813 ⟨hk1, hs1⟩)) (fun r5 hr5 => ?_)
  refine lv_pop hx hb dL_law_1816 rfl ?_
  refine lv_aload_n hx hb dL_law_1817 rfl (lv_at hl 1 rfl) ?_
  refine lv_aload_n hx hb dL_law_1818 rfl (lv_at hl 3 rfl) ?_
  refine lv_iload_n hx hb dL_law_1819 rfl (lv_at hl 0 rfl) ?_
  refine lv_iconst (v := 1) hx hb dL_law_1820 (by decide) ?_
  refine fx_iadd hx hb dL_law_1821 rfl zk_1 (by omega) (fun y6 ey6 ty6 => ?_)
  refine va_sld hx hb hX hbl hbA hS (fm_in (by omega)) dL_law_1822 ?_
  refine lv_topi (fun x7 ex7 => ?_)
  have qx7 : x2 = x7 := by rw [ex7, ex2, ey6, ey1]
  clear ex7
  subst qx7
  refine lv_aload_n hx hb dL_law_1823 rfl (lv_at hl 3 rfl) ?_
  refine lv_iload_n hx hb dL_law_1824 rfl (lv_at hl 0 rfl) ?_
  refine lv_iconst (v := 2) hx hb dL_law_1825 (by decide) ?_
  refine fx_iadd hx hb dL_law_1826 rfl zk_2 (by omega) (fun y8 ey8 ty8 => ?_)
  refine va_sld hx hb hX hbl hbA hS (fm_in (by omega)) dL_law_1827 ?_
  refine lv_topi (fun x9 ex9 => ?_)
  have qx9 : x4 = x9 := by rw [ex9, ex4, ey8, ey3]
  clear ex9
  subst qx9
  refine vp_callSi (va_Run.run (va_runV (As := [.int x2, .int x4]) (rest := []) ⟨hx, hb, hml, hown, hts⟩ (fc_X12_taken l D ad C nb M hI x2 x4) (cwV 2 hts gL_law_X12_taken rfl rfl rfl (by decide +kernel) ⟨Nat.le_of_ble_eq_true rfl, Nat.le_of_ble_eq_true rfl⟩) (fm_preV hc hw hS kl_60 sh_60 rfl) rfl rfl hl.1 rfl (lv_room (Nat.le_of_ble_eq_true rfl)) dL_law_1828 ⟨hk1, hs1⟩)) (fun r10 hr10 => ?_)
  refine lv_pop hx hb dL_law_1831 rfl ?_
  refine lv_goto (tgt := 1835) hx hb dL_law_1832 (by decide) ?_
  have hr90 : M.1 0 0 10 = M.1 60 0 16 := hrel.1
  have hr91 : M.1 0 0 9 = M.1 60 0 0 := hrel.2.1
  have hr92 : M.1 0 0 11 = M.1 60 0 21 := hrel.2.2.1
  have hr93 : (∀ j : Nat, j < nb → M.1 50 j 2 = M.1 111 0 j) := fun j hj => by exact hrel.2.2.2.1 j hj
  have hr94 : (∀ j : Nat, j < 4 → M.1 46 j 1 = M.1 175 0 j) := fun j hj => by exact hrel.2.2.2.2.1 j hj
  have hr95 : (∀ j : Nat, j < 4 → M.1 46 j 2 = M.1 176 0 j) := fun j hj => by exact hrel.2.2.2.2.2.1 j hj
  have hr96 : (∀ j : Nat, j < nb → M.1 50 j 0 = M.1 110 0 j) := fun j hj => by exact hrel.2.2.2.2.2.2.1 j hj
  have hr97 : (∀ j : Nat, j < nb → M.1 50 j 1 = M.1 112 0 j) := fun j hj => by exact hrel.2.2.2.2.2.2.2.1 j hj
  have hr98 : M.1 1 0 2 = M.1 60 0 5 := hrel.2.2.2.2.2.2.2.2.1
  have hr99 : M.1 27 0 1 = M.1 60 0 52 := hrel.2.2.2.2.2.2.2.2.2.1
  have hr910 : M.1 27 0 3 = M.1 60 0 55 := hrel.2.2.2.2.2.2.2.2.2.2.1
  have hr911 : (∀ j : Nat, M.1 28 0 j = M.1 151 0 j) := fun j => by exact hrel.2.2.2.2.2.2.2.2.2.2.2.1 j
  have hr912 : M.1 27 0 4 = M.1 60 0 56 := hrel.2.2.2.2.2.2.2.2.2.2.2.2.1
  have hr913 : M.1 21 0 5 = M.1 60 0 44 := hrel.2.2.2.2.2.2.2.2.2.2.2.2.2.1
  have hr914 : (∀ j : Nat, M.1 22 0 j = M.1 140 0 j) := fun j => by exact hrel.2.2.2.2.2.2.2.2.2.2.2.2.2.2.1 j
  have hr915 : (∀ j : Nat, M.1 23 0 j = M.1 141 0 j) := fun j => by exact hrel.2.2.2.2.2.2.2.2.2.2.2.2.2.2.2.1 j
  have hr916 : (∀ j : Nat, M.1 24 0 j = M.1 142 0 j) := fun j => by exact hrel.2.2.2.2.2.2.2.2.2.2.2.2.2.2.2.2.1 j
  have hr917 : (∀ j : Nat, M.1 25 0 j = M.1 143 0 j) := fun j => by exact hrel.2.2.2.2.2.2.2.2.2.2.2.2.2.2.2.2.2.1 j
  have hr918 : (∀ j : Nat, j < nb → M.1 50 j 4 = M.1 115 0 j) := fun j hj => by exact hrel.2.2.2.2.2.2.2.2.2.2.2.2.2.2.2.2.2.2.1 j hj
  have hs90 : (∀ s i : Nat, s < 4 → i < 40 → M.1 47 s i = M.1 177 0 (40 * s + i)) := fun s i hs hi => by exact hrel.2.2.2.2.2.2.2.2.2.2.2.2.2.2.2.2.2.2.2.1 s i hs hi
  have hs91_1 : rt_WN M := hrel.2.2.2.2.2.2.2.2.2.2.2.2.2.2.2.2.2.2.2.2.1
  have hs91 : rt_WN M := hs91_1
  have hs92_1 : rt_PC nb M := hrel.2.2.2.2.2.2.2.2.2.2.2.2.2.2.2.2.2.2.2.2.2.1
  have hs92 : rt_PC nb M := hs92_1
  have hs93_1 : rt_FB M := hrel.2.2.2.2.2.2.2.2.2.2.2.2.2.2.2.2.2.2.2.2.2.2.1
  have hs93 : rt_FB M := hs93_1
  have hs94 : (∀ j : Nat, j < nb → rt_nkM M j = rt_nmM M j) := by exact hrel.2.2.2.2.2.2.2.2.2.2.2.2.2.2.2.2.2.2.2.2.2.2.2.1
  have hs95_1 : rt_BN nb M := hrel.2.2.2.2.2.2.2.2.2.2.2.2.2.2.2.2.2.2.2.2.2.2.2.2.1
  have hs95 : rt_BN nb M := hs95_1
  have hs96_1 : (∀ k : Nat, (k : Int) < (M.1 27 0 3).toInt → rt_TR M k) := hrel.2.2.2.2.2.2.2.2.2.2.2.2.2.2.2.2.2.2.2.2.2.2.2.2.2.1
  have hs96 : (∀ k : Nat, (k : Int) < (M.1 27 0 3).toInt → rt_TR M k) := hs96_1
  have hs97 : (M.1 27 0 4).toInt < (M.1 27 0 3).toInt := hrel.2.2.2.2.2.2.2.2.2.2.2.2.2.2.2.2.2.2.2.2.2.2.2.2.2.2.1
  have hs98_1 : (∀ k : Nat, (k : Int) < (M.1 21 0 5).toInt → (M.1 22 0 k).toInt < nb) := hrel.2.2.2.2.2.2.2.2.2.2.2.2.2.2.2.2.2.2.2.2.2.2.2.2.2.2.2
  have hs98 : (∀ k : Nat, (k : Int) < (M.1 21 0 5).toInt → (M.1 22 0 k).toInt < nb) := hs98_1
  have hrel9 : M.1 0 0 10 = M.1 60 0 16 ∧ M.1 0 0 9 = M.1 60 0 0 ∧ M.1 0 0 11 = M.1 60 0 21 ∧ (∀ j : Nat, j < nb → M.1 50 j 2 = M.1 111 0 j) ∧ (∀ j : Nat, j < 4 → M.1 46 j 1 = M.1 175 0 j) ∧ (∀ j : Nat, j < 4 → M.1 46 j 2 = M.1 176 0 j) ∧ (∀ j : Nat, j < nb → M.1 50 j 0 = M.1 110 0 j) ∧ (∀ j : Nat, j < nb → M.1 50 j 1 = M.1 112 0 j) ∧ M.1 1 0 2 = M.1 60 0 5 ∧ M.1 27 0 1 = M.1 60 0 52 ∧ M.1 27 0 3 = M.1 60 0 55 ∧ (∀ j : Nat, M.1 28 0 j = M.1 151 0 j) ∧ M.1 27 0 4 = M.1 60 0 56 ∧ M.1 21 0 5 = M.1 60 0 44 ∧ (∀ j : Nat, M.1 22 0 j = M.1 140 0 j) ∧ (∀ j : Nat, M.1 23 0 j = M.1 141 0 j) ∧ (∀ j : Nat, M.1 24 0 j = M.1 142 0 j) ∧ (∀ j : Nat, M.1 25 0 j = M.1 143 0 j) ∧ (∀ j : Nat, j < nb → M.1 50 j 4 = M.1 115 0 j) ∧ (∀ s i : Nat, s < 4 → i < 40 → M.1 47 s i = M.1 177 0 (40 * s + i)) ∧ rt_WN M ∧ rt_PC nb M ∧ rt_FB M ∧ (∀ j : Nat, j < nb → rt_nkM M j = rt_nmM M j) ∧ rt_BN nb M ∧ (∀ k : Nat, (k : Int) < (M.1 27 0 3).toInt → rt_TR M k) ∧ (M.1 27 0 4).toInt < (M.1 27 0 3).toInt ∧ (∀ k : Nat, (k : Int) < (M.1 21 0 5).toInt → (M.1 22 0 k).toInt < nb) := ⟨hr90, hr91, hr92, hr93, hr94, hr95, hr96, hr97, hr98, hr99, hr910, hr911, hr912, hr913, hr914, hr915, hr916, hr917, hr918, hs90, hs91, hs92, hs93, hs94, hs95, hs96, hs97, hs98⟩
  exact kk M _ _ hw hI hS hrel9 ls (lv_sub hl [0, 1, 2, 3] rfl)

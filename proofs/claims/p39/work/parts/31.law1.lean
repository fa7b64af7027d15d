theorem ck_L_law_41_31law1 : ((cL_law.data.toList).drop 656).take 16 = [46, 133, 20, 0, 42, 127, 129, 182, 0, 61, 87, 167, 4, 143, 43, 42] := by decide +kernel
theorem ck_L_law_42_31law1 : ((cL_law.data.toList).drop 672).take 16 = [29, 4, 96, 46, 42, 29, 5, 96, 46, 182, 0, 62, 87, 44, 42, 29] := by decide +kernel
theorem ck_L_law_43_31law1 : ((cL_law.data.toList).drop 688).take 16 = [4, 96, 46, 42, 29, 5, 96, 46, 182, 0, 65, 87, 167, 4, 110, 43] := by decide +kernel
theorem ck_L_law_44_31law1 : ((cL_law.data.toList).drop 704).take 16 = [42, 29, 4, 96, 46, 42, 29, 5, 96, 46, 42, 29, 6, 96, 46, 42] := by decide +kernel
theorem ck_L_law_45_31law1 : ((cL_law.data.toList).drop 720).take 16 = [29, 7, 96, 46, 133, 16, 32, 121, 42, 29, 8, 96, 46, 133, 20, 0] := by decide +kernel
theorem ck_L_law_46_31law1 : ((cL_law.data.toList).drop 736).take 16 = [42, 127, 129, 182, 0, 66, 87, 44, 42, 29, 4, 96, 46, 42, 29, 5] := by decide +kernel
theorem ck_L_law_47_31law1 : ((cL_law.data.toList).drop 752).take 16 = [96, 46, 42, 29, 6, 96, 46, 42, 29, 7, 96, 46, 133, 16, 32, 121] := by decide +kernel
theorem ck_L_law_48_31law1 : ((cL_law.data.toList).drop 768).take 16 = [42, 29, 8, 96, 46, 133, 20, 0, 42, 127, 129, 182, 0, 70, 87, 167] := by decide +kernel
theorem ck_L_law_49_31law1 : ((cL_law.data.toList).drop 784).take 16 = [4, 27, 43, 42, 29, 4, 96, 46, 42, 29, 5, 96, 46, 182, 0, 71] := by decide +kernel
theorem ck_L_law_50_31law1 : ((cL_law.data.toList).drop 800).take 16 = [87, 44, 42, 29, 4, 96, 46, 42, 29, 5, 96, 46, 182, 0, 74, 87] := by decide +kernel
theorem ck_L_law_51_31law1 : ((cL_law.data.toList).drop 816).take 16 = [167, 3, 250, 43, 42, 29, 4, 96, 46, 182, 0, 75, 87, 44, 42, 29] := by decide +kernel
theorem ck_L_law_52_31law1 : ((cL_law.data.toList).drop 832).take 16 = [4, 96, 46, 182, 0, 78, 87, 167, 3, 227, 43, 42, 29, 4, 96, 46] := by decide +kernel
theorem ck_L_law_53_31law1 : ((cL_law.data.toList).drop 848).take 16 = [133, 16, 32, 121, 42, 29, 5, 96, 46, 133, 20, 0, 42, 127, 129, 182] := by decide +kernel
theorem ck_L_law_54_31law1 : ((cL_law.data.toList).drop 864).take 16 = [0, 79, 87, 44, 42, 29, 4, 96, 46, 133, 16, 32, 121, 42, 29, 5] := by decide +kernel
theorem ck_L_law_55_31law1 : ((cL_law.data.toList).drop 880).take 16 = [96, 46, 133, 20, 0, 42, 127, 129, 182, 0, 83, 87, 167, 3, 174, 43] := by decide +kernel
theorem ck_L_law_56_31law1 : ((cL_law.data.toList).drop 896).take 16 = [42, 29, 4, 96, 46, 42, 29, 5, 96, 46, 42, 29, 6, 96, 46, 182] := by decide +kernel
theorem ck_L_law_57_31law1 : ((cL_law.data.toList).drop 912).take 16 = [0, 84, 87, 44, 42, 29, 4, 96, 46, 42, 29, 5, 96, 46, 42, 29] := by decide +kernel
theorem ck_L_law_58_31law1 : ((cL_law.data.toList).drop 928).take 16 = [6, 96, 46, 182, 0, 87, 87, 167, 3, 131, 43, 42, 29, 4, 96, 46] := by decide +kernel
theorem ck_L_law_59_31law1 : ((cL_law.data.toList).drop 944).take 16 = [42, 29, 5, 96, 46, 42, 29, 6, 96, 46, 182, 0, 88, 88, 44, 42] := by decide +kernel
theorem ck_L_law_60_31law1 : ((cL_law.data.toList).drop 960).take 16 = [29, 4, 96, 46, 42, 29, 5, 96, 46, 42, 29, 6, 96, 46, 182, 0] := by decide +kernel
theorem ck_L_law_61_31law1 : ((cL_law.data.toList).drop 976).take 16 = [91, 88, 167, 3, 88, 43, 42, 29, 4, 96, 46, 42, 29, 5, 96, 46] := by decide +kernel
theorem ck_L_law_62_31law1 : ((cL_law.data.toList).drop 992).take 16 = [42, 29, 6, 96, 46, 42, 29, 7, 96, 46, 182, 0, 92, 87, 44, 42] := by decide +kernel
theorem ck_L_law_63_31law1 : ((cL_law.data.toList).drop 1008).take 16 = [29, 4, 96, 46, 42, 29, 5, 96, 46, 42, 29, 6, 96, 46, 42, 29] := by decide +kernel
theorem ck_L_law_64_31law1 : ((cL_law.data.toList).drop 1024).take 16 = [7, 96, 46, 182, 0, 95, 87, 167, 3, 35, 43, 42, 29, 4, 96, 46] := by decide +kernel
theorem ck_L_law_65_31law1 : ((cL_law.data.toList).drop 1040).take 16 = [182, 0, 96, 87, 44, 42, 29, 4, 96, 46, 182, 0, 99, 87, 167, 3] := by decide +kernel
theorem ck_L_law_66_31law1 : ((cL_law.data.toList).drop 1056).take 16 = [12, 43, 42, 29, 4, 96, 46, 42, 29, 5, 96, 46, 42, 29, 6, 96] := by decide +kernel
theorem ck_L_law_67_31law1 : ((cL_law.data.toList).drop 1072).take 16 = [46, 42, 29, 7, 96, 46, 182, 0, 100, 87, 44, 42, 29, 4, 96, 46] := by decide +kernel
theorem ck_L_law_68_31law1 : ((cL_law.data.toList).drop 1088).take 16 = [42, 29, 5, 96, 46, 42, 29, 6, 96, 46, 42, 29, 7, 96, 46, 182] := by decide +kernel
theorem ck_L_law_69_31law1 : ((cL_law.data.toList).drop 1104).take 16 = [0, 103, 87, 167, 2, 215, 43, 42, 29, 4, 96, 46, 42, 29, 5, 96] := by decide +kernel
theorem dL_law_670 : decode cL_law 670 = .ok (.aload_n 1, 1) := dk_0 (dk_k43 670) (dk_by (j := 14) rfl ck_L_law_41_31law1 rfl rfl rfl)
theorem dL_law_671 : decode cL_law 671 = .ok (.aload_n 0, 1) := dk_0 (dk_k42 671) (dk_by (j := 15) rfl ck_L_law_41_31law1 rfl rfl rfl)
theorem dL_law_672 : decode cL_law 672 = .ok (.iload_n 3, 1) := dk_0 (dk_k29 672) (dk_by (j := 0) rfl ck_L_law_42_31law1 rfl rfl rfl)
theorem dL_law_673 : decode cL_law 673 = .ok (.iconst 1, 1) := dk_0 (dk_k4 673) (dk_by (j := 1) rfl ck_L_law_42_31law1 rfl rfl rfl)
theorem dL_law_674 : decode cL_law 674 = .ok (.iadd, 1) := dk_0 (dk_k96 674) (dk_by (j := 2) rfl ck_L_law_42_31law1 rfl rfl rfl)
theorem dL_law_675 : decode cL_law 675 = .ok (.iaload, 1) := dk_0 (dk_k46 675) (dk_by (j := 3) rfl ck_L_law_42_31law1 rfl rfl rfl)
theorem dL_law_676 : decode cL_law 676 = .ok (.aload_n 0, 1) := dk_0 (dk_k42 676) (dk_by (j := 4) rfl ck_L_law_42_31law1 rfl rfl rfl)
theorem dL_law_677 : decode cL_law 677 = .ok (.iload_n 3, 1) := dk_0 (dk_k29 677) (dk_by (j := 5) rfl ck_L_law_42_31law1 rfl rfl rfl)
theorem dL_law_678 : decode cL_law 678 = .ok (.iconst 2, 1) := dk_0 (dk_k5 678) (dk_by (j := 6) rfl ck_L_law_42_31law1 rfl rfl rfl)
theorem dL_law_679 : decode cL_law 679 = .ok (.iadd, 1) := dk_0 (dk_k96 679) (dk_by (j := 7) rfl ck_L_law_42_31law1 rfl rfl rfl)
theorem dL_law_680 : decode cL_law 680 = .ok (.iaload, 1) := dk_0 (dk_k46 680) (dk_by (j := 8) rfl ck_L_law_42_31law1 rfl rfl rfl)
theorem gL_law_X11_canHear : GoodIn lw_tbl (wsV RL 62 RX11 yX11_canHear wsX11_canHear) := ru_gL (ru_gV tw_3_103 tw_3_104 tw_3_105 tw_1_1 mT_X11_canHear)
theorem dL_law_681 : decode cL_law 681 = .ok (.invokevirtual 62, 3) := dk_2 (dk_k182 681) (dk_by (j := 9) rfl ck_L_law_42_31law1 rfl rfl rfl) (dk_by (j := 10) rfl ck_L_law_42_31law1 rfl rfl rfl) (dk_by (j := 11) rfl ck_L_law_42_31law1 rfl rfl rfl) (by decide)
theorem dL_law_684 : decode cL_law 684 = .ok (.pop, 1) := dk_0 (dk_k87 684) (dk_by (j := 12) rfl ck_L_law_42_31law1 rfl rfl rfl)
theorem dL_law_685 : decode cL_law 685 = .ok (.aload_n 2, 1) := dk_0 (dk_k44 685) (dk_by (j := 13) rfl ck_L_law_42_31law1 rfl rfl rfl)
theorem dL_law_686 : decode cL_law 686 = .ok (.aload_n 0, 1) := dk_0 (dk_k42 686) (dk_by (j := 14) rfl ck_L_law_42_31law1 rfl rfl rfl)
theorem dL_law_687 : decode cL_law 687 = .ok (.iload_n 3, 1) := dk_0 (dk_k29 687) (dk_by (j := 15) rfl ck_L_law_42_31law1 rfl rfl rfl)
theorem dL_law_688 : decode cL_law 688 = .ok (.iconst 1, 1) := dk_0 (dk_k4 688) (dk_by (j := 0) rfl ck_L_law_43_31law1 rfl rfl rfl)
theorem dL_law_689 : decode cL_law 689 = .ok (.iadd, 1) := dk_0 (dk_k96 689) (dk_by (j := 1) rfl ck_L_law_43_31law1 rfl rfl rfl)
theorem dL_law_690 : decode cL_law 690 = .ok (.iaload, 1) := dk_0 (dk_k46 690) (dk_by (j := 2) rfl ck_L_law_43_31law1 rfl rfl rfl)
theorem dL_law_691 : decode cL_law 691 = .ok (.aload_n 0, 1) := dk_0 (dk_k42 691) (dk_by (j := 3) rfl ck_L_law_43_31law1 rfl rfl rfl)
theorem dL_law_692 : decode cL_law 692 = .ok (.iload_n 3, 1) := dk_0 (dk_k29 692) (dk_by (j := 4) rfl ck_L_law_43_31law1 rfl rfl rfl)
theorem dL_law_693 : decode cL_law 693 = .ok (.iconst 2, 1) := dk_0 (dk_k5 693) (dk_by (j := 5) rfl ck_L_law_43_31law1 rfl rfl rfl)
theorem dL_law_694 : decode cL_law 694 = .ok (.iadd, 1) := dk_0 (dk_k96 694) (dk_by (j := 6) rfl ck_L_law_43_31law1 rfl rfl rfl)
theorem dL_law_695 : decode cL_law 695 = .ok (.iaload, 1) := dk_0 (dk_k46 695) (dk_by (j := 7) rfl ck_L_law_43_31law1 rfl rfl rfl)
theorem gL_law_X12_canHear : GoodIn lw_tbl (wsV RL 65 RX12 yX12_canHear wsX12_canHear) := ru_gL (ru_gV tw_6_200 tw_6_201 tw_6_202 tw_1_12 mT_X12_canHear)
theorem dL_law_696 : decode cL_law 696 = .ok (.invokevirtual 65, 3) := dk_2 (dk_k182 696) (dk_by (j := 8) rfl ck_L_law_43_31law1 rfl rfl rfl) (dk_by (j := 9) rfl ck_L_law_43_31law1 rfl rfl rfl) (dk_by (j := 10) rfl ck_L_law_43_31law1 rfl rfl rfl) (by decide)
theorem dL_law_699 : decode cL_law 699 = .ok (.pop, 1) := dk_0 (dk_k87 699) (dk_by (j := 11) rfl ck_L_law_43_31law1 rfl rfl rfl)
theorem dL_law_700 : decode cL_law 700 = .ok (.goto 1134, 3) := dk_s (dk_k167 700) (dk_by (j := 12) rfl ck_L_law_43_31law1 rfl rfl rfl) (dk_by (j := 13) rfl ck_L_law_43_31law1 rfl rfl rfl) (dk_by (j := 14) rfl ck_L_law_43_31law1 rfl rfl rfl) (by decide)
theorem dL_law_703 : decode cL_law 703 = .ok (.aload_n 1, 1) := dk_0 (dk_k43 703) (dk_by (j := 15) rfl ck_L_law_43_31law1 rfl rfl rfl)
theorem dL_law_704 : decode cL_law 704 = .ok (.aload_n 0, 1) := dk_0 (dk_k42 704) (dk_by (j := 0) rfl ck_L_law_44_31law1 rfl rfl rfl)
theorem dL_law_705 : decode cL_law 705 = .ok (.iload_n 3, 1) := dk_0 (dk_k29 705) (dk_by (j := 1) rfl ck_L_law_44_31law1 rfl rfl rfl)
theorem dL_law_706 : decode cL_law 706 = .ok (.iconst 1, 1) := dk_0 (dk_k4 706) (dk_by (j := 2) rfl ck_L_law_44_31law1 rfl rfl rfl)
theorem dL_law_707 : decode cL_law 707 = .ok (.iadd, 1) := dk_0 (dk_k96 707) (dk_by (j := 3) rfl ck_L_law_44_31law1 rfl rfl rfl)
theorem dL_law_708 : decode cL_law 708 = .ok (.iaload, 1) := dk_0 (dk_k46 708) (dk_by (j := 4) rfl ck_L_law_44_31law1 rfl rfl rfl)
theorem dL_law_709 : decode cL_law 709 = .ok (.aload_n 0, 1) := dk_0 (dk_k42 709) (dk_by (j := 5) rfl ck_L_law_44_31law1 rfl rfl rfl)
theorem dL_law_710 : decode cL_law 710 = .ok (.iload_n 3, 1) := dk_0 (dk_k29 710) (dk_by (j := 6) rfl ck_L_law_44_31law1 rfl rfl rfl)
theorem dL_law_711 : decode cL_law 711 = .ok (.iconst 2, 1) := dk_0 (dk_k5 711) (dk_by (j := 7) rfl ck_L_law_44_31law1 rfl rfl rfl)
theorem dL_law_712 : decode cL_law 712 = .ok (.iadd, 1) := dk_0 (dk_k96 712) (dk_by (j := 8) rfl ck_L_law_44_31law1 rfl rfl rfl)
theorem dL_law_713 : decode cL_law 713 = .ok (.iaload, 1) := dk_0 (dk_k46 713) (dk_by (j := 9) rfl ck_L_law_44_31law1 rfl rfl rfl)
theorem dL_law_714 : decode cL_law 714 = .ok (.aload_n 0, 1) := dk_0 (dk_k42 714) (dk_by (j := 10) rfl ck_L_law_44_31law1 rfl rfl rfl)
theorem dL_law_715 : decode cL_law 715 = .ok (.iload_n 3, 1) := dk_0 (dk_k29 715) (dk_by (j := 11) rfl ck_L_law_44_31law1 rfl rfl rfl)
theorem dL_law_716 : decode cL_law 716 = .ok (.iconst 3, 1) := dk_0 (dk_k6 716) (dk_by (j := 12) rfl ck_L_law_44_31law1 rfl rfl rfl)
theorem dL_law_717 : decode cL_law 717 = .ok (.iadd, 1) := dk_0 (dk_k96 717) (dk_by (j := 13) rfl ck_L_law_44_31law1 rfl rfl rfl)
theorem dL_law_718 : decode cL_law 718 = .ok (.iaload, 1) := dk_0 (dk_k46 718) (dk_by (j := 14) rfl ck_L_law_44_31law1 rfl rfl rfl)
theorem dL_law_719 : decode cL_law 719 = .ok (.aload_n 0, 1) := dk_0 (dk_k42 719) (dk_by (j := 15) rfl ck_L_law_44_31law1 rfl rfl rfl)
theorem dL_law_720 : decode cL_law 720 = .ok (.iload_n 3, 1) := dk_0 (dk_k29 720) (dk_by (j := 0) rfl ck_L_law_45_31law1 rfl rfl rfl)
theorem dL_law_721 : decode cL_law 721 = .ok (.iconst 4, 1) := dk_0 (dk_k7 721) (dk_by (j := 1) rfl ck_L_law_45_31law1 rfl rfl rfl)
theorem dL_law_722 : decode cL_law 722 = .ok (.iadd, 1) := dk_0 (dk_k96 722) (dk_by (j := 2) rfl ck_L_law_45_31law1 rfl rfl rfl)
theorem dL_law_723 : decode cL_law 723 = .ok (.iaload, 1) := dk_0 (dk_k46 723) (dk_by (j := 3) rfl ck_L_law_45_31law1 rfl rfl rfl)
theorem dL_law_724 : decode cL_law 724 = .ok (.i2l, 1) := dk_0 (dk_k133 724) (dk_by (j := 4) rfl ck_L_law_45_31law1 rfl rfl rfl)
theorem dL_law_725 : decode cL_law 725 = .ok (.bipush 32, 2) := dk_1 (dk_k16 725) (dk_by (j := 5) rfl ck_L_law_45_31law1 rfl rfl rfl) (dk_by (j := 6) rfl ck_L_law_45_31law1 rfl rfl rfl) (by decide)
theorem dL_law_727 : decode cL_law 727 = .ok (.lshl, 1) := dk_0 (dk_k121 727) (dk_by (j := 7) rfl ck_L_law_45_31law1 rfl rfl rfl)
theorem dL_law_728 : decode cL_law 728 = .ok (.aload_n 0, 1) := dk_0 (dk_k42 728) (dk_by (j := 8) rfl ck_L_law_45_31law1 rfl rfl rfl)
theorem dL_law_729 : decode cL_law 729 = .ok (.iload_n 3, 1) := dk_0 (dk_k29 729) (dk_by (j := 9) rfl ck_L_law_45_31law1 rfl rfl rfl)
theorem dL_law_730 : decode cL_law 730 = .ok (.iconst 5, 1) := dk_0 (dk_k8 730) (dk_by (j := 10) rfl ck_L_law_45_31law1 rfl rfl rfl)
theorem dL_law_731 : decode cL_law 731 = .ok (.iadd, 1) := dk_0 (dk_k96 731) (dk_by (j := 11) rfl ck_L_law_45_31law1 rfl rfl rfl)
theorem dL_law_732 : decode cL_law 732 = .ok (.iaload, 1) := dk_0 (dk_k46 732) (dk_by (j := 12) rfl ck_L_law_45_31law1 rfl rfl rfl)
theorem dL_law_733 : decode cL_law 733 = .ok (.i2l, 1) := dk_0 (dk_k133 733) (dk_by (j := 13) rfl ck_L_law_45_31law1 rfl rfl rfl)
theorem dL_law_734 : decode cL_law 734 = .ok (.ldc2_w 42, 3) := dk_2 (dk_k20 734) (dk_by (j := 14) rfl ck_L_law_45_31law1 rfl rfl rfl) (dk_by (j := 15) rfl ck_L_law_45_31law1 rfl rfl rfl) (dk_by (j := 0) rfl ck_L_law_46_31law1 rfl rfl rfl) (by decide)
theorem dL_law_737 : decode cL_law 737 = .ok (.land, 1) := dk_0 (dk_k127 737) (dk_by (j := 1) rfl ck_L_law_46_31law1 rfl rfl rfl)
theorem dL_law_738 : decode cL_law 738 = .ok (.lor, 1) := dk_0 (dk_k129 738) (dk_by (j := 2) rfl ck_L_law_46_31law1 rfl rfl rfl)
theorem gL_law_X11_part : GoodIn lw_tbl (wsV RL 66 RX11 yX11_part wsX11_part) := ru_gL (ru_gV tw_3_128 tw_3_129 tw_3_130 tw_1_1 mT_X11_part)
theorem dL_law_739 : decode cL_law 739 = .ok (.invokevirtual 66, 3) := dk_2 (dk_k182 739) (dk_by (j := 3) rfl ck_L_law_46_31law1 rfl rfl rfl) (dk_by (j := 4) rfl ck_L_law_46_31law1 rfl rfl rfl) (dk_by (j := 5) rfl ck_L_law_46_31law1 rfl rfl rfl) (by decide)
theorem dL_law_742 : decode cL_law 742 = .ok (.pop, 1) := dk_0 (dk_k87 742) (dk_by (j := 6) rfl ck_L_law_46_31law1 rfl rfl rfl)
theorem dL_law_743 : decode cL_law 743 = .ok (.aload_n 2, 1) := dk_0 (dk_k44 743) (dk_by (j := 7) rfl ck_L_law_46_31law1 rfl rfl rfl)
theorem dL_law_744 : decode cL_law 744 = .ok (.aload_n 0, 1) := dk_0 (dk_k42 744) (dk_by (j := 8) rfl ck_L_law_46_31law1 rfl rfl rfl)
theorem dL_law_745 : decode cL_law 745 = .ok (.iload_n 3, 1) := dk_0 (dk_k29 745) (dk_by (j := 9) rfl ck_L_law_46_31law1 rfl rfl rfl)
theorem dL_law_746 : decode cL_law 746 = .ok (.iconst 1, 1) := dk_0 (dk_k4 746) (dk_by (j := 10) rfl ck_L_law_46_31law1 rfl rfl rfl)
theorem dL_law_747 : decode cL_law 747 = .ok (.iadd, 1) := dk_0 (dk_k96 747) (dk_by (j := 11) rfl ck_L_law_46_31law1 rfl rfl rfl)
theorem dL_law_748 : decode cL_law 748 = .ok (.iaload, 1) := dk_0 (dk_k46 748) (dk_by (j := 12) rfl ck_L_law_46_31law1 rfl rfl rfl)
theorem dL_law_749 : decode cL_law 749 = .ok (.aload_n 0, 1) := dk_0 (dk_k42 749) (dk_by (j := 13) rfl ck_L_law_46_31law1 rfl rfl rfl)
theorem dL_law_750 : decode cL_law 750 = .ok (.iload_n 3, 1) := dk_0 (dk_k29 750) (dk_by (j := 14) rfl ck_L_law_46_31law1 rfl rfl rfl)
theorem dL_law_751 : decode cL_law 751 = .ok (.iconst 2, 1) := dk_0 (dk_k5 751) (dk_by (j := 15) rfl ck_L_law_46_31law1 rfl rfl rfl)
theorem dL_law_752 : decode cL_law 752 = .ok (.iadd, 1) := dk_0 (dk_k96 752) (dk_by (j := 0) rfl ck_L_law_47_31law1 rfl rfl rfl)
theorem dL_law_753 : decode cL_law 753 = .ok (.iaload, 1) := dk_0 (dk_k46 753) (dk_by (j := 1) rfl ck_L_law_47_31law1 rfl rfl rfl)
theorem dL_law_754 : decode cL_law 754 = .ok (.aload_n 0, 1) := dk_0 (dk_k42 754) (dk_by (j := 2) rfl ck_L_law_47_31law1 rfl rfl rfl)
theorem dL_law_755 : decode cL_law 755 = .ok (.iload_n 3, 1) := dk_0 (dk_k29 755) (dk_by (j := 3) rfl ck_L_law_47_31law1 rfl rfl rfl)
theorem dL_law_756 : decode cL_law 756 = .ok (.iconst 3, 1) := dk_0 (dk_k6 756) (dk_by (j := 4) rfl ck_L_law_47_31law1 rfl rfl rfl)
theorem dL_law_757 : decode cL_law 757 = .ok (.iadd, 1) := dk_0 (dk_k96 757) (dk_by (j := 5) rfl ck_L_law_47_31law1 rfl rfl rfl)
theorem dL_law_758 : decode cL_law 758 = .ok (.iaload, 1) := dk_0 (dk_k46 758) (dk_by (j := 6) rfl ck_L_law_47_31law1 rfl rfl rfl)
theorem dL_law_759 : decode cL_law 759 = .ok (.aload_n 0, 1) := dk_0 (dk_k42 759) (dk_by (j := 7) rfl ck_L_law_47_31law1 rfl rfl rfl)
theorem dL_law_760 : decode cL_law 760 = .ok (.iload_n 3, 1) := dk_0 (dk_k29 760) (dk_by (j := 8) rfl ck_L_law_47_31law1 rfl rfl rfl)
theorem dL_law_761 : decode cL_law 761 = .ok (.iconst 4, 1) := dk_0 (dk_k7 761) (dk_by (j := 9) rfl ck_L_law_47_31law1 rfl rfl rfl)
theorem dL_law_762 : decode cL_law 762 = .ok (.iadd, 1) := dk_0 (dk_k96 762) (dk_by (j := 10) rfl ck_L_law_47_31law1 rfl rfl rfl)
theorem dL_law_763 : decode cL_law 763 = .ok (.iaload, 1) := dk_0 (dk_k46 763) (dk_by (j := 11) rfl ck_L_law_47_31law1 rfl rfl rfl)
theorem dL_law_764 : decode cL_law 764 = .ok (.i2l, 1) := dk_0 (dk_k133 764) (dk_by (j := 12) rfl ck_L_law_47_31law1 rfl rfl rfl)
theorem dL_law_765 : decode cL_law 765 = .ok (.bipush 32, 2) := dk_1 (dk_k16 765) (dk_by (j := 13) rfl ck_L_law_47_31law1 rfl rfl rfl) (dk_by (j := 14) rfl ck_L_law_47_31law1 rfl rfl rfl) (by decide)
theorem dL_law_767 : decode cL_law 767 = .ok (.lshl, 1) := dk_0 (dk_k121 767) (dk_by (j := 15) rfl ck_L_law_47_31law1 rfl rfl rfl)
theorem dL_law_768 : decode cL_law 768 = .ok (.aload_n 0, 1) := dk_0 (dk_k42 768) (dk_by (j := 0) rfl ck_L_law_48_31law1 rfl rfl rfl)
theorem dL_law_769 : decode cL_law 769 = .ok (.iload_n 3, 1) := dk_0 (dk_k29 769) (dk_by (j := 1) rfl ck_L_law_48_31law1 rfl rfl rfl)
theorem dL_law_770 : decode cL_law 770 = .ok (.iconst 5, 1) := dk_0 (dk_k8 770) (dk_by (j := 2) rfl ck_L_law_48_31law1 rfl rfl rfl)
theorem dL_law_771 : decode cL_law 771 = .ok (.iadd, 1) := dk_0 (dk_k96 771) (dk_by (j := 3) rfl ck_L_law_48_31law1 rfl rfl rfl)
theorem dL_law_772 : decode cL_law 772 = .ok (.iaload, 1) := dk_0 (dk_k46 772) (dk_by (j := 4) rfl ck_L_law_48_31law1 rfl rfl rfl)
theorem dL_law_773 : decode cL_law 773 = .ok (.i2l, 1) := dk_0 (dk_k133 773) (dk_by (j := 5) rfl ck_L_law_48_31law1 rfl rfl rfl)
theorem dL_law_774 : decode cL_law 774 = .ok (.ldc2_w 42, 3) := dk_2 (dk_k20 774) (dk_by (j := 6) rfl ck_L_law_48_31law1 rfl rfl rfl) (dk_by (j := 7) rfl ck_L_law_48_31law1 rfl rfl rfl) (dk_by (j := 8) rfl ck_L_law_48_31law1 rfl rfl rfl) (by decide)
theorem dL_law_777 : decode cL_law 777 = .ok (.land, 1) := dk_0 (dk_k127 777) (dk_by (j := 9) rfl ck_L_law_48_31law1 rfl rfl rfl)
theorem dL_law_778 : decode cL_law 778 = .ok (.lor, 1) := dk_0 (dk_k129 778) (dk_by (j := 10) rfl ck_L_law_48_31law1 rfl rfl rfl)
theorem gL_law_X12_part : GoodIn lw_tbl (wsV RL 70 RX12 yX12_part wsX12_part) := ru_gL (ru_gV tw_6_214 tw_6_215 tw_6_216 tw_1_12 mT_X12_part)
theorem dL_law_779 : decode cL_law 779 = .ok (.invokevirtual 70, 3) := dk_2 (dk_k182 779) (dk_by (j := 11) rfl ck_L_law_48_31law1 rfl rfl rfl) (dk_by (j := 12) rfl ck_L_law_48_31law1 rfl rfl rfl) (dk_by (j := 13) rfl ck_L_law_48_31law1 rfl rfl rfl) (by decide)
theorem dL_law_782 : decode cL_law 782 = .ok (.pop, 1) := dk_0 (dk_k87 782) (dk_by (j := 14) rfl ck_L_law_48_31law1 rfl rfl rfl)
theorem dL_law_783 : decode cL_law 783 = .ok (.goto 1051, 3) := dk_s (dk_k167 783) (dk_by (j := 15) rfl ck_L_law_48_31law1 rfl rfl rfl) (dk_by (j := 0) rfl ck_L_law_49_31law1 rfl rfl rfl) (dk_by (j := 1) rfl ck_L_law_49_31law1 rfl rfl rfl) (by decide)
theorem dL_law_786 : decode cL_law 786 = .ok (.aload_n 1, 1) := dk_0 (dk_k43 786) (dk_by (j := 2) rfl ck_L_law_49_31law1 rfl rfl rfl)
theorem dL_law_787 : decode cL_law 787 = .ok (.aload_n 0, 1) := dk_0 (dk_k42 787) (dk_by (j := 3) rfl ck_L_law_49_31law1 rfl rfl rfl)
theorem dL_law_788 : decode cL_law 788 = .ok (.iload_n 3, 1) := dk_0 (dk_k29 788) (dk_by (j := 4) rfl ck_L_law_49_31law1 rfl rfl rfl)
theorem dL_law_789 : decode cL_law 789 = .ok (.iconst 1, 1) := dk_0 (dk_k4 789) (dk_by (j := 5) rfl ck_L_law_49_31law1 rfl rfl rfl)
theorem dL_law_790 : decode cL_law 790 = .ok (.iadd, 1) := dk_0 (dk_k96 790) (dk_by (j := 6) rfl ck_L_law_49_31law1 rfl rfl rfl)
theorem dL_law_791 : decode cL_law 791 = .ok (.iaload, 1) := dk_0 (dk_k46 791) (dk_by (j := 7) rfl ck_L_law_49_31law1 rfl rfl rfl)
theorem dL_law_792 : decode cL_law 792 = .ok (.aload_n 0, 1) := dk_0 (dk_k42 792) (dk_by (j := 8) rfl ck_L_law_49_31law1 rfl rfl rfl)
theorem dL_law_793 : decode cL_law 793 = .ok (.iload_n 3, 1) := dk_0 (dk_k29 793) (dk_by (j := 9) rfl ck_L_law_49_31law1 rfl rfl rfl)
theorem dL_law_794 : decode cL_law 794 = .ok (.iconst 2, 1) := dk_0 (dk_k5 794) (dk_by (j := 10) rfl ck_L_law_49_31law1 rfl rfl rfl)
theorem dL_law_795 : decode cL_law 795 = .ok (.iadd, 1) := dk_0 (dk_k96 795) (dk_by (j := 11) rfl ck_L_law_49_31law1 rfl rfl rfl)
theorem dL_law_796 : decode cL_law 796 = .ok (.iaload, 1) := dk_0 (dk_k46 796) (dk_by (j := 12) rfl ck_L_law_49_31law1 rfl rfl rfl)
theorem gL_law_X11_word : GoodIn lw_tbl (wsV RL 71 RX11 yX11_word wsX11_word) := ru_gL (ru_gV tw_3_137 tw_3_138 tw_3_139 tw_1_1 mT_X11_word)
theorem dL_law_797 : decode cL_law 797 = .ok (.invokevirtual 71, 3) := dk_2 (dk_k182 797) (dk_by (j := 13) rfl ck_L_law_49_31law1 rfl rfl rfl) (dk_by (j := 14) rfl ck_L_law_49_31law1 rfl rfl rfl) (dk_by (j := 15) rfl ck_L_law_49_31law1 rfl rfl rfl) (by decide)
theorem dL_law_800 : decode cL_law 800 = .ok (.pop, 1) := dk_0 (dk_k87 800) (dk_by (j := 0) rfl ck_L_law_50_31law1 rfl rfl rfl)
theorem dL_law_801 : decode cL_law 801 = .ok (.aload_n 2, 1) := dk_0 (dk_k44 801) (dk_by (j := 1) rfl ck_L_law_50_31law1 rfl rfl rfl)
theorem dL_law_802 : decode cL_law 802 = .ok (.aload_n 0, 1) := dk_0 (dk_k42 802) (dk_by (j := 2) rfl ck_L_law_50_31law1 rfl rfl rfl)
theorem dL_law_803 : decode cL_law 803 = .ok (.iload_n 3, 1) := dk_0 (dk_k29 803) (dk_by (j := 3) rfl ck_L_law_50_31law1 rfl rfl rfl)
theorem dL_law_804 : decode cL_law 804 = .ok (.iconst 1, 1) := dk_0 (dk_k4 804) (dk_by (j := 4) rfl ck_L_law_50_31law1 rfl rfl rfl)
theorem dL_law_805 : decode cL_law 805 = .ok (.iadd, 1) := dk_0 (dk_k96 805) (dk_by (j := 5) rfl ck_L_law_50_31law1 rfl rfl rfl)
theorem dL_law_806 : decode cL_law 806 = .ok (.iaload, 1) := dk_0 (dk_k46 806) (dk_by (j := 6) rfl ck_L_law_50_31law1 rfl rfl rfl)
theorem dL_law_807 : decode cL_law 807 = .ok (.aload_n 0, 1) := dk_0 (dk_k42 807) (dk_by (j := 7) rfl ck_L_law_50_31law1 rfl rfl rfl)
theorem dL_law_808 : decode cL_law 808 = .ok (.iload_n 3, 1) := dk_0 (dk_k29 808) (dk_by (j := 8) rfl ck_L_law_50_31law1 rfl rfl rfl)
theorem dL_law_809 : decode cL_law 809 = .ok (.iconst 2, 1) := dk_0 (dk_k5 809) (dk_by (j := 9) rfl ck_L_law_50_31law1 rfl rfl rfl)
theorem dL_law_810 : decode cL_law 810 = .ok (.iadd, 1) := dk_0 (dk_k96 810) (dk_by (j := 10) rfl ck_L_law_50_31law1 rfl rfl rfl)
theorem dL_law_811 : decode cL_law 811 = .ok (.iaload, 1) := dk_0 (dk_k46 811) (dk_by (j := 11) rfl ck_L_law_50_31law1 rfl rfl rfl)
theorem gL_law_X12_word : GoodIn lw_tbl (wsV RL 74 RX12 yX12_word wsX12_word) := ru_gL (ru_gV tw_6_219 tw_6_220 tw_6_221 tw_1_12 mT_X12_word)
theorem dL_law_812 : decode cL_law 812 = .ok (.invokevirtual 74, 3) := dk_2 (dk_k182 812) (dk_by (j := 12) rfl ck_L_law_50_31law1 rfl rfl rfl) (dk_by (j := 13) rfl ck_L_law_50_31law1 rfl rfl rfl) (dk_by (j := 14) rfl ck_L_law_50_31law1 rfl rfl rfl) (by decide)
theorem dL_law_815 : decode cL_law 815 = .ok (.pop, 1) := dk_0 (dk_k87 815) (dk_by (j := 15) rfl ck_L_law_50_31law1 rfl rfl rfl)
theorem dL_law_816 : decode cL_law 816 = .ok (.goto 1018, 3) := dk_s (dk_k167 816) (dk_by (j := 0) rfl ck_L_law_51_31law1 rfl rfl rfl) (dk_by (j := 1) rfl ck_L_law_51_31law1 rfl rfl rfl) (dk_by (j := 2) rfl ck_L_law_51_31law1 rfl rfl rfl) (by decide)
theorem dL_law_819 : decode cL_law 819 = .ok (.aload_n 1, 1) := dk_0 (dk_k43 819) (dk_by (j := 3) rfl ck_L_law_51_31law1 rfl rfl rfl)
theorem dL_law_820 : decode cL_law 820 = .ok (.aload_n 0, 1) := dk_0 (dk_k42 820) (dk_by (j := 4) rfl ck_L_law_51_31law1 rfl rfl rfl)
theorem dL_law_821 : decode cL_law 821 = .ok (.iload_n 3, 1) := dk_0 (dk_k29 821) (dk_by (j := 5) rfl ck_L_law_51_31law1 rfl rfl rfl)
theorem dL_law_822 : decode cL_law 822 = .ok (.iconst 1, 1) := dk_0 (dk_k4 822) (dk_by (j := 6) rfl ck_L_law_51_31law1 rfl rfl rfl)
theorem dL_law_823 : decode cL_law 823 = .ok (.iadd, 1) := dk_0 (dk_k96 823) (dk_by (j := 7) rfl ck_L_law_51_31law1 rfl rfl rfl)
theorem dL_law_824 : decode cL_law 824 = .ok (.iaload, 1) := dk_0 (dk_k46 824) (dk_by (j := 8) rfl ck_L_law_51_31law1 rfl rfl rfl)
theorem gL_law_X11_isTrue : GoodIn lw_tbl (wsV RL 75 RX11 yX11_isTrue wsX11_isTrue) := ru_gL (ru_gV tw_3_149 tw_3_150 tw_3_151 tw_1_1 mT_X11_isTrue)
theorem dL_law_825 : decode cL_law 825 = .ok (.invokevirtual 75, 3) := dk_2 (dk_k182 825) (dk_by (j := 9) rfl ck_L_law_51_31law1 rfl rfl rfl) (dk_by (j := 10) rfl ck_L_law_51_31law1 rfl rfl rfl) (dk_by (j := 11) rfl ck_L_law_51_31law1 rfl rfl rfl) (by decide)
theorem dL_law_828 : decode cL_law 828 = .ok (.pop, 1) := dk_0 (dk_k87 828) (dk_by (j := 12) rfl ck_L_law_51_31law1 rfl rfl rfl)
theorem dL_law_829 : decode cL_law 829 = .ok (.aload_n 2, 1) := dk_0 (dk_k44 829) (dk_by (j := 13) rfl ck_L_law_51_31law1 rfl rfl rfl)
theorem dL_law_830 : decode cL_law 830 = .ok (.aload_n 0, 1) := dk_0 (dk_k42 830) (dk_by (j := 14) rfl ck_L_law_51_31law1 rfl rfl rfl)
theorem dL_law_831 : decode cL_law 831 = .ok (.iload_n 3, 1) := dk_0 (dk_k29 831) (dk_by (j := 15) rfl ck_L_law_51_31law1 rfl rfl rfl)
theorem dL_law_832 : decode cL_law 832 = .ok (.iconst 1, 1) := dk_0 (dk_k4 832) (dk_by (j := 0) rfl ck_L_law_52_31law1 rfl rfl rfl)
theorem dL_law_833 : decode cL_law 833 = .ok (.iadd, 1) := dk_0 (dk_k96 833) (dk_by (j := 1) rfl ck_L_law_52_31law1 rfl rfl rfl)
theorem dL_law_834 : decode cL_law 834 = .ok (.iaload, 1) := dk_0 (dk_k46 834) (dk_by (j := 2) rfl ck_L_law_52_31law1 rfl rfl rfl)
theorem gL_law_X12_isTrue : GoodIn lw_tbl (wsV RL 78 RX12 yX12_isTrue wsX12_isTrue) := ru_gL (ru_gV tw_6_227 tw_6_228 tw_6_229 tw_1_12 mT_X12_isTrue)
theorem dL_law_835 : decode cL_law 835 = .ok (.invokevirtual 78, 3) := dk_2 (dk_k182 835) (dk_by (j := 3) rfl ck_L_law_52_31law1 rfl rfl rfl) (dk_by (j := 4) rfl ck_L_law_52_31law1 rfl rfl rfl) (dk_by (j := 5) rfl ck_L_law_52_31law1 rfl rfl rfl) (by decide)
theorem dL_law_838 : decode cL_law 838 = .ok (.pop, 1) := dk_0 (dk_k87 838) (dk_by (j := 6) rfl ck_L_law_52_31law1 rfl rfl rfl)
theorem dL_law_839 : decode cL_law 839 = .ok (.goto 995, 3) := dk_s (dk_k167 839) (dk_by (j := 7) rfl ck_L_law_52_31law1 rfl rfl rfl) (dk_by (j := 8) rfl ck_L_law_52_31law1 rfl rfl rfl) (dk_by (j := 9) rfl ck_L_law_52_31law1 rfl rfl rfl) (by decide)
theorem dL_law_842 : decode cL_law 842 = .ok (.aload_n 1, 1) := dk_0 (dk_k43 842) (dk_by (j := 10) rfl ck_L_law_52_31law1 rfl rfl rfl)
theorem dL_law_843 : decode cL_law 843 = .ok (.aload_n 0, 1) := dk_0 (dk_k42 843) (dk_by (j := 11) rfl ck_L_law_52_31law1 rfl rfl rfl)
theorem dL_law_844 : decode cL_law 844 = .ok (.iload_n 3, 1) := dk_0 (dk_k29 844) (dk_by (j := 12) rfl ck_L_law_52_31law1 rfl rfl rfl)
theorem dL_law_845 : decode cL_law 845 = .ok (.iconst 1, 1) := dk_0 (dk_k4 845) (dk_by (j := 13) rfl ck_L_law_52_31law1 rfl rfl rfl)
theorem dL_law_846 : decode cL_law 846 = .ok (.iadd, 1) := dk_0 (dk_k96 846) (dk_by (j := 14) rfl ck_L_law_52_31law1 rfl rfl rfl)
theorem dL_law_847 : decode cL_law 847 = .ok (.iaload, 1) := dk_0 (dk_k46 847) (dk_by (j := 15) rfl ck_L_law_52_31law1 rfl rfl rfl)
theorem dL_law_848 : decode cL_law 848 = .ok (.i2l, 1) := dk_0 (dk_k133 848) (dk_by (j := 0) rfl ck_L_law_53_31law1 rfl rfl rfl)
theorem dL_law_849 : decode cL_law 849 = .ok (.bipush 32, 2) := dk_1 (dk_k16 849) (dk_by (j := 1) rfl ck_L_law_53_31law1 rfl rfl rfl) (dk_by (j := 2) rfl ck_L_law_53_31law1 rfl rfl rfl) (by decide)
theorem dL_law_851 : decode cL_law 851 = .ok (.lshl, 1) := dk_0 (dk_k121 851) (dk_by (j := 3) rfl ck_L_law_53_31law1 rfl rfl rfl)
theorem dL_law_852 : decode cL_law 852 = .ok (.aload_n 0, 1) := dk_0 (dk_k42 852) (dk_by (j := 4) rfl ck_L_law_53_31law1 rfl rfl rfl)
theorem dL_law_853 : decode cL_law 853 = .ok (.iload_n 3, 1) := dk_0 (dk_k29 853) (dk_by (j := 5) rfl ck_L_law_53_31law1 rfl rfl rfl)
theorem dL_law_854 : decode cL_law 854 = .ok (.iconst 2, 1) := dk_0 (dk_k5 854) (dk_by (j := 6) rfl ck_L_law_53_31law1 rfl rfl rfl)
theorem dL_law_855 : decode cL_law 855 = .ok (.iadd, 1) := dk_0 (dk_k96 855) (dk_by (j := 7) rfl ck_L_law_53_31law1 rfl rfl rfl)
theorem dL_law_856 : decode cL_law 856 = .ok (.iaload, 1) := dk_0 (dk_k46 856) (dk_by (j := 8) rfl ck_L_law_53_31law1 rfl rfl rfl)
theorem dL_law_857 : decode cL_law 857 = .ok (.i2l, 1) := dk_0 (dk_k133 857) (dk_by (j := 9) rfl ck_L_law_53_31law1 rfl rfl rfl)
theorem dL_law_858 : decode cL_law 858 = .ok (.ldc2_w 42, 3) := dk_2 (dk_k20 858) (dk_by (j := 10) rfl ck_L_law_53_31law1 rfl rfl rfl) (dk_by (j := 11) rfl ck_L_law_53_31law1 rfl rfl rfl) (dk_by (j := 12) rfl ck_L_law_53_31law1 rfl rfl rfl) (by decide)
theorem dL_law_861 : decode cL_law 861 = .ok (.land, 1) := dk_0 (dk_k127 861) (dk_by (j := 13) rfl ck_L_law_53_31law1 rfl rfl rfl)
theorem dL_law_862 : decode cL_law 862 = .ok (.lor, 1) := dk_0 (dk_k129 862) (dk_by (j := 14) rfl ck_L_law_53_31law1 rfl rfl rfl)
theorem gL_law_X11_lane : GoodIn lw_tbl (wsV RL 79 RX11 yX11_lane wsX11_lane) := ru_gL (ru_gV tw_3_157 tw_3_158 tw_3_159 tw_1_1 mT_X11_lane)
theorem dL_law_863 : decode cL_law 863 = .ok (.invokevirtual 79, 3) := dk_2 (dk_k182 863) (dk_by (j := 15) rfl ck_L_law_53_31law1 rfl rfl rfl) (dk_by (j := 0) rfl ck_L_law_54_31law1 rfl rfl rfl) (dk_by (j := 1) rfl ck_L_law_54_31law1 rfl rfl rfl) (by decide)
theorem dL_law_866 : decode cL_law 866 = .ok (.pop, 1) := dk_0 (dk_k87 866) (dk_by (j := 2) rfl ck_L_law_54_31law1 rfl rfl rfl)
theorem dL_law_867 : decode cL_law 867 = .ok (.aload_n 2, 1) := dk_0 (dk_k44 867) (dk_by (j := 3) rfl ck_L_law_54_31law1 rfl rfl rfl)
theorem dL_law_868 : decode cL_law 868 = .ok (.aload_n 0, 1) := dk_0 (dk_k42 868) (dk_by (j := 4) rfl ck_L_law_54_31law1 rfl rfl rfl)
theorem dL_law_869 : decode cL_law 869 = .ok (.iload_n 3, 1) := dk_0 (dk_k29 869) (dk_by (j := 5) rfl ck_L_law_54_31law1 rfl rfl rfl)
theorem dL_law_870 : decode cL_law 870 = .ok (.iconst 1, 1) := dk_0 (dk_k4 870) (dk_by (j := 6) rfl ck_L_law_54_31law1 rfl rfl rfl)
theorem dL_law_871 : decode cL_law 871 = .ok (.iadd, 1) := dk_0 (dk_k96 871) (dk_by (j := 7) rfl ck_L_law_54_31law1 rfl rfl rfl)
theorem dL_law_872 : decode cL_law 872 = .ok (.iaload, 1) := dk_0 (dk_k46 872) (dk_by (j := 8) rfl ck_L_law_54_31law1 rfl rfl rfl)
theorem dL_law_873 : decode cL_law 873 = .ok (.i2l, 1) := dk_0 (dk_k133 873) (dk_by (j := 9) rfl ck_L_law_54_31law1 rfl rfl rfl)
theorem dL_law_874 : decode cL_law 874 = .ok (.bipush 32, 2) := dk_1 (dk_k16 874) (dk_by (j := 10) rfl ck_L_law_54_31law1 rfl rfl rfl) (dk_by (j := 11) rfl ck_L_law_54_31law1 rfl rfl rfl) (by decide)
theorem dL_law_876 : decode cL_law 876 = .ok (.lshl, 1) := dk_0 (dk_k121 876) (dk_by (j := 12) rfl ck_L_law_54_31law1 rfl rfl rfl)
theorem dL_law_877 : decode cL_law 877 = .ok (.aload_n 0, 1) := dk_0 (dk_k42 877) (dk_by (j := 13) rfl ck_L_law_54_31law1 rfl rfl rfl)
theorem dL_law_878 : decode cL_law 878 = .ok (.iload_n 3, 1) := dk_0 (dk_k29 878) (dk_by (j := 14) rfl ck_L_law_54_31law1 rfl rfl rfl)
theorem dL_law_879 : decode cL_law 879 = .ok (.iconst 2, 1) := dk_0 (dk_k5 879) (dk_by (j := 15) rfl ck_L_law_54_31law1 rfl rfl rfl)
theorem dL_law_880 : decode cL_law 880 = .ok (.iadd, 1) := dk_0 (dk_k96 880) (dk_by (j := 0) rfl ck_L_law_55_31law1 rfl rfl rfl)
theorem dL_law_881 : decode cL_law 881 = .ok (.iaload, 1) := dk_0 (dk_k46 881) (dk_by (j := 1) rfl ck_L_law_55_31law1 rfl rfl rfl)
theorem dL_law_882 : decode cL_law 882 = .ok (.i2l, 1) := dk_0 (dk_k133 882) (dk_by (j := 2) rfl ck_L_law_55_31law1 rfl rfl rfl)
theorem dL_law_883 : decode cL_law 883 = .ok (.ldc2_w 42, 3) := dk_2 (dk_k20 883) (dk_by (j := 3) rfl ck_L_law_55_31law1 rfl rfl rfl) (dk_by (j := 4) rfl ck_L_law_55_31law1 rfl rfl rfl) (dk_by (j := 5) rfl ck_L_law_55_31law1 rfl rfl rfl) (by decide)
theorem dL_law_886 : decode cL_law 886 = .ok (.land, 1) := dk_0 (dk_k127 886) (dk_by (j := 6) rfl ck_L_law_55_31law1 rfl rfl rfl)
theorem dL_law_887 : decode cL_law 887 = .ok (.lor, 1) := dk_0 (dk_k129 887) (dk_by (j := 7) rfl ck_L_law_55_31law1 rfl rfl rfl)
theorem gL_law_X12_lane : GoodIn lw_tbl (wsV RL 83 RX12 yX12_lane wsX12_lane) := ru_gL (ru_gV tw_6_231 tw_6_232 tw_6_233 tw_1_12 mT_X12_lane)
theorem dL_law_888 : decode cL_law 888 = .ok (.invokevirtual 83, 3) := dk_2 (dk_k182 888) (dk_by (j := 8) rfl ck_L_law_55_31law1 rfl rfl rfl) (dk_by (j := 9) rfl ck_L_law_55_31law1 rfl rfl rfl) (dk_by (j := 10) rfl ck_L_law_55_31law1 rfl rfl rfl) (by decide)
theorem dL_law_891 : decode cL_law 891 = .ok (.pop, 1) := dk_0 (dk_k87 891) (dk_by (j := 11) rfl ck_L_law_55_31law1 rfl rfl rfl)
theorem dL_law_892 : decode cL_law 892 = .ok (.goto 942, 3) := dk_s (dk_k167 892) (dk_by (j := 12) rfl ck_L_law_55_31law1 rfl rfl rfl) (dk_by (j := 13) rfl ck_L_law_55_31law1 rfl rfl rfl) (dk_by (j := 14) rfl ck_L_law_55_31law1 rfl rfl rfl) (by decide)
theorem dL_law_895 : decode cL_law 895 = .ok (.aload_n 1, 1) := dk_0 (dk_k43 895) (dk_by (j := 15) rfl ck_L_law_55_31law1 rfl rfl rfl)
theorem dL_law_896 : decode cL_law 896 = .ok (.aload_n 0, 1) := dk_0 (dk_k42 896) (dk_by (j := 0) rfl ck_L_law_56_31law1 rfl rfl rfl)
theorem dL_law_897 : decode cL_law 897 = .ok (.iload_n 3, 1) := dk_0 (dk_k29 897) (dk_by (j := 1) rfl ck_L_law_56_31law1 rfl rfl rfl)
theorem dL_law_898 : decode cL_law 898 = .ok (.iconst 1, 1) := dk_0 (dk_k4 898) (dk_by (j := 2) rfl ck_L_law_56_31law1 rfl rfl rfl)
theorem dL_law_899 : decode cL_law 899 = .ok (.iadd, 1) := dk_0 (dk_k96 899) (dk_by (j := 3) rfl ck_L_law_56_31law1 rfl rfl rfl)
theorem dL_law_900 : decode cL_law 900 = .ok (.iaload, 1) := dk_0 (dk_k46 900) (dk_by (j := 4) rfl ck_L_law_56_31law1 rfl rfl rfl)
theorem dL_law_901 : decode cL_law 901 = .ok (.aload_n 0, 1) := dk_0 (dk_k42 901) (dk_by (j := 5) rfl ck_L_law_56_31law1 rfl rfl rfl)
theorem dL_law_902 : decode cL_law 902 = .ok (.iload_n 3, 1) := dk_0 (dk_k29 902) (dk_by (j := 6) rfl ck_L_law_56_31law1 rfl rfl rfl)
theorem dL_law_903 : decode cL_law 903 = .ok (.iconst 2, 1) := dk_0 (dk_k5 903) (dk_by (j := 7) rfl ck_L_law_56_31law1 rfl rfl rfl)
theorem dL_law_904 : decode cL_law 904 = .ok (.iadd, 1) := dk_0 (dk_k96 904) (dk_by (j := 8) rfl ck_L_law_56_31law1 rfl rfl rfl)
theorem dL_law_905 : decode cL_law 905 = .ok (.iaload, 1) := dk_0 (dk_k46 905) (dk_by (j := 9) rfl ck_L_law_56_31law1 rfl rfl rfl)
theorem dL_law_906 : decode cL_law 906 = .ok (.aload_n 0, 1) := dk_0 (dk_k42 906) (dk_by (j := 10) rfl ck_L_law_56_31law1 rfl rfl rfl)
theorem dL_law_907 : decode cL_law 907 = .ok (.iload_n 3, 1) := dk_0 (dk_k29 907) (dk_by (j := 11) rfl ck_L_law_56_31law1 rfl rfl rfl)
theorem dL_law_908 : decode cL_law 908 = .ok (.iconst 3, 1) := dk_0 (dk_k6 908) (dk_by (j := 12) rfl ck_L_law_56_31law1 rfl rfl rfl)
theorem dL_law_909 : decode cL_law 909 = .ok (.iadd, 1) := dk_0 (dk_k96 909) (dk_by (j := 13) rfl ck_L_law_56_31law1 rfl rfl rfl)
theorem dL_law_910 : decode cL_law 910 = .ok (.iaload, 1) := dk_0 (dk_k46 910) (dk_by (j := 14) rfl ck_L_law_56_31law1 rfl rfl rfl)
theorem gL_law_X11_flown : GoodIn lw_tbl (wsV RL 84 RX11 yX11_flown wsX11_flown) := ru_gL (ru_gV tw_3_165 tw_3_166 tw_3_167 tw_1_1 mT_X11_flown)
theorem dL_law_911 : decode cL_law 911 = .ok (.invokevirtual 84, 3) := dk_2 (dk_k182 911) (dk_by (j := 15) rfl ck_L_law_56_31law1 rfl rfl rfl) (dk_by (j := 0) rfl ck_L_law_57_31law1 rfl rfl rfl) (dk_by (j := 1) rfl ck_L_law_57_31law1 rfl rfl rfl) (by decide)
theorem dL_law_914 : decode cL_law 914 = .ok (.pop, 1) := dk_0 (dk_k87 914) (dk_by (j := 2) rfl ck_L_law_57_31law1 rfl rfl rfl)
theorem dL_law_915 : decode cL_law 915 = .ok (.aload_n 2, 1) := dk_0 (dk_k44 915) (dk_by (j := 3) rfl ck_L_law_57_31law1 rfl rfl rfl)
theorem dL_law_916 : decode cL_law 916 = .ok (.aload_n 0, 1) := dk_0 (dk_k42 916) (dk_by (j := 4) rfl ck_L_law_57_31law1 rfl rfl rfl)
theorem dL_law_917 : decode cL_law 917 = .ok (.iload_n 3, 1) := dk_0 (dk_k29 917) (dk_by (j := 5) rfl ck_L_law_57_31law1 rfl rfl rfl)
theorem dL_law_918 : decode cL_law 918 = .ok (.iconst 1, 1) := dk_0 (dk_k4 918) (dk_by (j := 6) rfl ck_L_law_57_31law1 rfl rfl rfl)
theorem dL_law_919 : decode cL_law 919 = .ok (.iadd, 1) := dk_0 (dk_k96 919) (dk_by (j := 7) rfl ck_L_law_57_31law1 rfl rfl rfl)
theorem dL_law_920 : decode cL_law 920 = .ok (.iaload, 1) := dk_0 (dk_k46 920) (dk_by (j := 8) rfl ck_L_law_57_31law1 rfl rfl rfl)
theorem dL_law_921 : decode cL_law 921 = .ok (.aload_n 0, 1) := dk_0 (dk_k42 921) (dk_by (j := 9) rfl ck_L_law_57_31law1 rfl rfl rfl)
theorem dL_law_922 : decode cL_law 922 = .ok (.iload_n 3, 1) := dk_0 (dk_k29 922) (dk_by (j := 10) rfl ck_L_law_57_31law1 rfl rfl rfl)
theorem dL_law_923 : decode cL_law 923 = .ok (.iconst 2, 1) := dk_0 (dk_k5 923) (dk_by (j := 11) rfl ck_L_law_57_31law1 rfl rfl rfl)
theorem dL_law_924 : decode cL_law 924 = .ok (.iadd, 1) := dk_0 (dk_k96 924) (dk_by (j := 12) rfl ck_L_law_57_31law1 rfl rfl rfl)
theorem dL_law_925 : decode cL_law 925 = .ok (.iaload, 1) := dk_0 (dk_k46 925) (dk_by (j := 13) rfl ck_L_law_57_31law1 rfl rfl rfl)
theorem dL_law_926 : decode cL_law 926 = .ok (.aload_n 0, 1) := dk_0 (dk_k42 926) (dk_by (j := 14) rfl ck_L_law_57_31law1 rfl rfl rfl)
theorem dL_law_927 : decode cL_law 927 = .ok (.iload_n 3, 1) := dk_0 (dk_k29 927) (dk_by (j := 15) rfl ck_L_law_57_31law1 rfl rfl rfl)
theorem dL_law_928 : decode cL_law 928 = .ok (.iconst 3, 1) := dk_0 (dk_k6 928) (dk_by (j := 0) rfl ck_L_law_58_31law1 rfl rfl rfl)
theorem dL_law_929 : decode cL_law 929 = .ok (.iadd, 1) := dk_0 (dk_k96 929) (dk_by (j := 1) rfl ck_L_law_58_31law1 rfl rfl rfl)
theorem dL_law_930 : decode cL_law 930 = .ok (.iaload, 1) := dk_0 (dk_k46 930) (dk_by (j := 2) rfl ck_L_law_58_31law1 rfl rfl rfl)
theorem gL_law_X12_flown : GoodIn lw_tbl (wsV RL 87 RX12 yX12_flown wsX12_flown) := ru_gL (ru_gV tw_6_235 tw_6_236 tw_6_237 tw_1_12 mT_X12_flown)
theorem dL_law_931 : decode cL_law 931 = .ok (.invokevirtual 87, 3) := dk_2 (dk_k182 931) (dk_by (j := 3) rfl ck_L_law_58_31law1 rfl rfl rfl) (dk_by (j := 4) rfl ck_L_law_58_31law1 rfl rfl rfl) (dk_by (j := 5) rfl ck_L_law_58_31law1 rfl rfl rfl) (by decide)
theorem dL_law_934 : decode cL_law 934 = .ok (.pop, 1) := dk_0 (dk_k87 934) (dk_by (j := 6) rfl ck_L_law_58_31law1 rfl rfl rfl)
theorem dL_law_935 : decode cL_law 935 = .ok (.goto 899, 3) := dk_s (dk_k167 935) (dk_by (j := 7) rfl ck_L_law_58_31law1 rfl rfl rfl) (dk_by (j := 8) rfl ck_L_law_58_31law1 rfl rfl rfl) (dk_by (j := 9) rfl ck_L_law_58_31law1 rfl rfl rfl) (by decide)
theorem dL_law_938 : decode cL_law 938 = .ok (.aload_n 1, 1) := dk_0 (dk_k43 938) (dk_by (j := 10) rfl ck_L_law_58_31law1 rfl rfl rfl)
theorem dL_law_939 : decode cL_law 939 = .ok (.aload_n 0, 1) := dk_0 (dk_k42 939) (dk_by (j := 11) rfl ck_L_law_58_31law1 rfl rfl rfl)
theorem dL_law_940 : decode cL_law 940 = .ok (.iload_n 3, 1) := dk_0 (dk_k29 940) (dk_by (j := 12) rfl ck_L_law_58_31law1 rfl rfl rfl)
theorem dL_law_941 : decode cL_law 941 = .ok (.iconst 1, 1) := dk_0 (dk_k4 941) (dk_by (j := 13) rfl ck_L_law_58_31law1 rfl rfl rfl)
theorem dL_law_942 : decode cL_law 942 = .ok (.iadd, 1) := dk_0 (dk_k96 942) (dk_by (j := 14) rfl ck_L_law_58_31law1 rfl rfl rfl)
theorem dL_law_943 : decode cL_law 943 = .ok (.iaload, 1) := dk_0 (dk_k46 943) (dk_by (j := 15) rfl ck_L_law_58_31law1 rfl rfl rfl)
theorem dL_law_944 : decode cL_law 944 = .ok (.aload_n 0, 1) := dk_0 (dk_k42 944) (dk_by (j := 0) rfl ck_L_law_59_31law1 rfl rfl rfl)
theorem dL_law_945 : decode cL_law 945 = .ok (.iload_n 3, 1) := dk_0 (dk_k29 945) (dk_by (j := 1) rfl ck_L_law_59_31law1 rfl rfl rfl)
theorem dL_law_946 : decode cL_law 946 = .ok (.iconst 2, 1) := dk_0 (dk_k5 946) (dk_by (j := 2) rfl ck_L_law_59_31law1 rfl rfl rfl)
theorem dL_law_947 : decode cL_law 947 = .ok (.iadd, 1) := dk_0 (dk_k96 947) (dk_by (j := 3) rfl ck_L_law_59_31law1 rfl rfl rfl)
theorem dL_law_948 : decode cL_law 948 = .ok (.iaload, 1) := dk_0 (dk_k46 948) (dk_by (j := 4) rfl ck_L_law_59_31law1 rfl rfl rfl)
theorem dL_law_949 : decode cL_law 949 = .ok (.aload_n 0, 1) := dk_0 (dk_k42 949) (dk_by (j := 5) rfl ck_L_law_59_31law1 rfl rfl rfl)
theorem dL_law_950 : decode cL_law 950 = .ok (.iload_n 3, 1) := dk_0 (dk_k29 950) (dk_by (j := 6) rfl ck_L_law_59_31law1 rfl rfl rfl)
theorem dL_law_951 : decode cL_law 951 = .ok (.iconst 3, 1) := dk_0 (dk_k6 951) (dk_by (j := 7) rfl ck_L_law_59_31law1 rfl rfl rfl)
theorem dL_law_952 : decode cL_law 952 = .ok (.iadd, 1) := dk_0 (dk_k96 952) (dk_by (j := 8) rfl ck_L_law_59_31law1 rfl rfl rfl)
theorem dL_law_953 : decode cL_law 953 = .ok (.iaload, 1) := dk_0 (dk_k46 953) (dk_by (j := 9) rfl ck_L_law_59_31law1 rfl rfl rfl)
theorem gL_law_X11_share : GoodIn lw_tbl (wsV RL 88 RX11 yX11_share wsX11_share) := ru_gL (ru_gV tw_3_183 tw_3_184 tw_3_185 tw_1_1 mT_X11_share)
theorem dL_law_954 : decode cL_law 954 = .ok (.invokevirtual 88, 3) := dk_2 (dk_k182 954) (dk_by (j := 10) rfl ck_L_law_59_31law1 rfl rfl rfl) (dk_by (j := 11) rfl ck_L_law_59_31law1 rfl rfl rfl) (dk_by (j := 12) rfl ck_L_law_59_31law1 rfl rfl rfl) (by decide)
theorem dL_law_957 : decode cL_law 957 = .ok (.pop2, 1) := dk_0 (dk_k88 957) (dk_by (j := 13) rfl ck_L_law_59_31law1 rfl rfl rfl)
theorem dL_law_958 : decode cL_law 958 = .ok (.aload_n 2, 1) := dk_0 (dk_k44 958) (dk_by (j := 14) rfl ck_L_law_59_31law1 rfl rfl rfl)
theorem dL_law_959 : decode cL_law 959 = .ok (.aload_n 0, 1) := dk_0 (dk_k42 959) (dk_by (j := 15) rfl ck_L_law_59_31law1 rfl rfl rfl)
theorem dL_law_960 : decode cL_law 960 = .ok (.iload_n 3, 1) := dk_0 (dk_k29 960) (dk_by (j := 0) rfl ck_L_law_60_31law1 rfl rfl rfl)
theorem dL_law_961 : decode cL_law 961 = .ok (.iconst 1, 1) := dk_0 (dk_k4 961) (dk_by (j := 1) rfl ck_L_law_60_31law1 rfl rfl rfl)
theorem dL_law_962 : decode cL_law 962 = .ok (.iadd, 1) := dk_0 (dk_k96 962) (dk_by (j := 2) rfl ck_L_law_60_31law1 rfl rfl rfl)
theorem dL_law_963 : decode cL_law 963 = .ok (.iaload, 1) := dk_0 (dk_k46 963) (dk_by (j := 3) rfl ck_L_law_60_31law1 rfl rfl rfl)
theorem dL_law_964 : decode cL_law 964 = .ok (.aload_n 0, 1) := dk_0 (dk_k42 964) (dk_by (j := 4) rfl ck_L_law_60_31law1 rfl rfl rfl)
theorem dL_law_965 : decode cL_law 965 = .ok (.iload_n 3, 1) := dk_0 (dk_k29 965) (dk_by (j := 5) rfl ck_L_law_60_31law1 rfl rfl rfl)
theorem dL_law_966 : decode cL_law 966 = .ok (.iconst 2, 1) := dk_0 (dk_k5 966) (dk_by (j := 6) rfl ck_L_law_60_31law1 rfl rfl rfl)
theorem dL_law_967 : decode cL_law 967 = .ok (.iadd, 1) := dk_0 (dk_k96 967) (dk_by (j := 7) rfl ck_L_law_60_31law1 rfl rfl rfl)
theorem dL_law_968 : decode cL_law 968 = .ok (.iaload, 1) := dk_0 (dk_k46 968) (dk_by (j := 8) rfl ck_L_law_60_31law1 rfl rfl rfl)
theorem dL_law_969 : decode cL_law 969 = .ok (.aload_n 0, 1) := dk_0 (dk_k42 969) (dk_by (j := 9) rfl ck_L_law_60_31law1 rfl rfl rfl)
theorem dL_law_970 : decode cL_law 970 = .ok (.iload_n 3, 1) := dk_0 (dk_k29 970) (dk_by (j := 10) rfl ck_L_law_60_31law1 rfl rfl rfl)
theorem dL_law_971 : decode cL_law 971 = .ok (.iconst 3, 1) := dk_0 (dk_k6 971) (dk_by (j := 11) rfl ck_L_law_60_31law1 rfl rfl rfl)
theorem dL_law_972 : decode cL_law 972 = .ok (.iadd, 1) := dk_0 (dk_k96 972) (dk_by (j := 12) rfl ck_L_law_60_31law1 rfl rfl rfl)
theorem dL_law_973 : decode cL_law 973 = .ok (.iaload, 1) := dk_0 (dk_k46 973) (dk_by (j := 13) rfl ck_L_law_60_31law1 rfl rfl rfl)
theorem gL_law_X12_share : GoodIn lw_tbl (wsV RL 91 RX12 yX12_share wsX12_share) := ru_gL (ru_gV tw_7_7 tw_7_8 tw_7_9 tw_1_12 mT_X12_share)
theorem dL_law_974 : decode cL_law 974 = .ok (.invokevirtual 91, 3) := dk_2 (dk_k182 974) (dk_by (j := 14) rfl ck_L_law_60_31law1 rfl rfl rfl) (dk_by (j := 15) rfl ck_L_law_60_31law1 rfl rfl rfl) (dk_by (j := 0) rfl ck_L_law_61_31law1 rfl rfl rfl) (by decide)
theorem dL_law_977 : decode cL_law 977 = .ok (.pop2, 1) := dk_0 (dk_k88 977) (dk_by (j := 1) rfl ck_L_law_61_31law1 rfl rfl rfl)
theorem dL_law_978 : decode cL_law 978 = .ok (.goto 856, 3) := dk_s (dk_k167 978) (dk_by (j := 2) rfl ck_L_law_61_31law1 rfl rfl rfl) (dk_by (j := 3) rfl ck_L_law_61_31law1 rfl rfl rfl) (dk_by (j := 4) rfl ck_L_law_61_31law1 rfl rfl rfl) (by decide)
theorem dL_law_981 : decode cL_law 981 = .ok (.aload_n 1, 1) := dk_0 (dk_k43 981) (dk_by (j := 5) rfl ck_L_law_61_31law1 rfl rfl rfl)
theorem dL_law_982 : decode cL_law 982 = .ok (.aload_n 0, 1) := dk_0 (dk_k42 982) (dk_by (j := 6) rfl ck_L_law_61_31law1 rfl rfl rfl)
theorem dL_law_983 : decode cL_law 983 = .ok (.iload_n 3, 1) := dk_0 (dk_k29 983) (dk_by (j := 7) rfl ck_L_law_61_31law1 rfl rfl rfl)
theorem dL_law_984 : decode cL_law 984 = .ok (.iconst 1, 1) := dk_0 (dk_k4 984) (dk_by (j := 8) rfl ck_L_law_61_31law1 rfl rfl rfl)
theorem dL_law_985 : decode cL_law 985 = .ok (.iadd, 1) := dk_0 (dk_k96 985) (dk_by (j := 9) rfl ck_L_law_61_31law1 rfl rfl rfl)
theorem dL_law_986 : decode cL_law 986 = .ok (.iaload, 1) := dk_0 (dk_k46 986) (dk_by (j := 10) rfl ck_L_law_61_31law1 rfl rfl rfl)
theorem dL_law_987 : decode cL_law 987 = .ok (.aload_n 0, 1) := dk_0 (dk_k42 987) (dk_by (j := 11) rfl ck_L_law_61_31law1 rfl rfl rfl)
theorem dL_law_988 : decode cL_law 988 = .ok (.iload_n 3, 1) := dk_0 (dk_k29 988) (dk_by (j := 12) rfl ck_L_law_61_31law1 rfl rfl rfl)
theorem dL_law_989 : decode cL_law 989 = .ok (.iconst 2, 1) := dk_0 (dk_k5 989) (dk_by (j := 13) rfl ck_L_law_61_31law1 rfl rfl rfl)
theorem dL_law_990 : decode cL_law 990 = .ok (.iadd, 1) := dk_0 (dk_k96 990) (dk_by (j := 14) rfl ck_L_law_61_31law1 rfl rfl rfl)
theorem dL_law_991 : decode cL_law 991 = .ok (.iaload, 1) := dk_0 (dk_k46 991) (dk_by (j := 15) rfl ck_L_law_61_31law1 rfl rfl rfl)
theorem dL_law_992 : decode cL_law 992 = .ok (.aload_n 0, 1) := dk_0 (dk_k42 992) (dk_by (j := 0) rfl ck_L_law_62_31law1 rfl rfl rfl)
theorem dL_law_993 : decode cL_law 993 = .ok (.iload_n 3, 1) := dk_0 (dk_k29 993) (dk_by (j := 1) rfl ck_L_law_62_31law1 rfl rfl rfl)
theorem dL_law_994 : decode cL_law 994 = .ok (.iconst 3, 1) := dk_0 (dk_k6 994) (dk_by (j := 2) rfl ck_L_law_62_31law1 rfl rfl rfl)
theorem dL_law_995 : decode cL_law 995 = .ok (.iadd, 1) := dk_0 (dk_k96 995) (dk_by (j := 3) rfl ck_L_law_62_31law1 rfl rfl rfl)
theorem dL_law_996 : decode cL_law 996 = .ok (.iaload, 1) := dk_0 (dk_k46 996) (dk_by (j := 4) rfl ck_L_law_62_31law1 rfl rfl rfl)
theorem dL_law_997 : decode cL_law 997 = .ok (.aload_n 0, 1) := dk_0 (dk_k42 997) (dk_by (j := 5) rfl ck_L_law_62_31law1 rfl rfl rfl)
theorem dL_law_998 : decode cL_law 998 = .ok (.iload_n 3, 1) := dk_0 (dk_k29 998) (dk_by (j := 6) rfl ck_L_law_62_31law1 rfl rfl rfl)
theorem dL_law_999 : decode cL_law 999 = .ok (.iconst 4, 1) := dk_0 (dk_k7 999) (dk_by (j := 7) rfl ck_L_law_62_31law1 rfl rfl rfl)
theorem dL_law_1000 : decode cL_law 1000 = .ok (.iadd, 1) := dk_0 (dk_k96 1000) (dk_by (j := 8) rfl ck_L_law_62_31law1 rfl rfl rfl)
theorem dL_law_1001 : decode cL_law 1001 = .ok (.iaload, 1) := dk_0 (dk_k46 1001) (dk_by (j := 9) rfl ck_L_law_62_31law1 rfl rfl rfl)
theorem gL_law_X11_parted : GoodIn lw_tbl (wsV RL 92 RX11 yX11_parted wsX11_parted) := ru_gL (ru_gV tw_3_209 tw_3_210 tw_3_211 tw_1_1 mT_X11_parted)
theorem dL_law_1002 : decode cL_law 1002 = .ok (.invokevirtual 92, 3) := dk_2 (dk_k182 1002) (dk_by (j := 10) rfl ck_L_law_62_31law1 rfl rfl rfl) (dk_by (j := 11) rfl ck_L_law_62_31law1 rfl rfl rfl) (dk_by (j := 12) rfl ck_L_law_62_31law1 rfl rfl rfl) (by decide)
theorem dL_law_1005 : decode cL_law 1005 = .ok (.pop, 1) := dk_0 (dk_k87 1005) (dk_by (j := 13) rfl ck_L_law_62_31law1 rfl rfl rfl)
theorem dL_law_1006 : decode cL_law 1006 = .ok (.aload_n 2, 1) := dk_0 (dk_k44 1006) (dk_by (j := 14) rfl ck_L_law_62_31law1 rfl rfl rfl)
theorem dL_law_1007 : decode cL_law 1007 = .ok (.aload_n 0, 1) := dk_0 (dk_k42 1007) (dk_by (j := 15) rfl ck_L_law_62_31law1 rfl rfl rfl)
theorem dL_law_1008 : decode cL_law 1008 = .ok (.iload_n 3, 1) := dk_0 (dk_k29 1008) (dk_by (j := 0) rfl ck_L_law_63_31law1 rfl rfl rfl)
theorem dL_law_1009 : decode cL_law 1009 = .ok (.iconst 1, 1) := dk_0 (dk_k4 1009) (dk_by (j := 1) rfl ck_L_law_63_31law1 rfl rfl rfl)
theorem dL_law_1010 : decode cL_law 1010 = .ok (.iadd, 1) := dk_0 (dk_k96 1010) (dk_by (j := 2) rfl ck_L_law_63_31law1 rfl rfl rfl)
theorem dL_law_1011 : decode cL_law 1011 = .ok (.iaload, 1) := dk_0 (dk_k46 1011) (dk_by (j := 3) rfl ck_L_law_63_31law1 rfl rfl rfl)
theorem dL_law_1012 : decode cL_law 1012 = .ok (.aload_n 0, 1) := dk_0 (dk_k42 1012) (dk_by (j := 4) rfl ck_L_law_63_31law1 rfl rfl rfl)
theorem dL_law_1013 : decode cL_law 1013 = .ok (.iload_n 3, 1) := dk_0 (dk_k29 1013) (dk_by (j := 5) rfl ck_L_law_63_31law1 rfl rfl rfl)
theorem dL_law_1014 : decode cL_law 1014 = .ok (.iconst 2, 1) := dk_0 (dk_k5 1014) (dk_by (j := 6) rfl ck_L_law_63_31law1 rfl rfl rfl)
theorem dL_law_1015 : decode cL_law 1015 = .ok (.iadd, 1) := dk_0 (dk_k96 1015) (dk_by (j := 7) rfl ck_L_law_63_31law1 rfl rfl rfl)
theorem dL_law_1016 : decode cL_law 1016 = .ok (.iaload, 1) := dk_0 (dk_k46 1016) (dk_by (j := 8) rfl ck_L_law_63_31law1 rfl rfl rfl)
theorem dL_law_1017 : decode cL_law 1017 = .ok (.aload_n 0, 1) := dk_0 (dk_k42 1017) (dk_by (j := 9) rfl ck_L_law_63_31law1 rfl rfl rfl)
theorem dL_law_1018 : decode cL_law 1018 = .ok (.iload_n 3, 1) := dk_0 (dk_k29 1018) (dk_by (j := 10) rfl ck_L_law_63_31law1 rfl rfl rfl)
theorem dL_law_1019 : decode cL_law 1019 = .ok (.iconst 3, 1) := dk_0 (dk_k6 1019) (dk_by (j := 11) rfl ck_L_law_63_31law1 rfl rfl rfl)
theorem dL_law_1020 : decode cL_law 1020 = .ok (.iadd, 1) := dk_0 (dk_k96 1020) (dk_by (j := 12) rfl ck_L_law_63_31law1 rfl rfl rfl)
theorem dL_law_1021 : decode cL_law 1021 = .ok (.iaload, 1) := dk_0 (dk_k46 1021) (dk_by (j := 13) rfl ck_L_law_63_31law1 rfl rfl rfl)
theorem dL_law_1022 : decode cL_law 1022 = .ok (.aload_n 0, 1) := dk_0 (dk_k42 1022) (dk_by (j := 14) rfl ck_L_law_63_31law1 rfl rfl rfl)
theorem dL_law_1023 : decode cL_law 1023 = .ok (.iload_n 3, 1) := dk_0 (dk_k29 1023) (dk_by (j := 15) rfl ck_L_law_63_31law1 rfl rfl rfl)
theorem dL_law_1024 : decode cL_law 1024 = .ok (.iconst 4, 1) := dk_0 (dk_k7 1024) (dk_by (j := 0) rfl ck_L_law_64_31law1 rfl rfl rfl)
theorem dL_law_1025 : decode cL_law 1025 = .ok (.iadd, 1) := dk_0 (dk_k96 1025) (dk_by (j := 1) rfl ck_L_law_64_31law1 rfl rfl rfl)
theorem dL_law_1026 : decode cL_law 1026 = .ok (.iaload, 1) := dk_0 (dk_k46 1026) (dk_by (j := 2) rfl ck_L_law_64_31law1 rfl rfl rfl)
theorem gL_law_X12_parted : GoodIn lw_tbl (wsV RL 95 RX12 yX12_parted wsX12_parted) := ru_gL (ru_gV tw_7_19 tw_7_20 tw_7_21 tw_1_12 mT_X12_parted)
theorem dL_law_1027 : decode cL_law 1027 = .ok (.invokevirtual 95, 3) := dk_2 (dk_k182 1027) (dk_by (j := 3) rfl ck_L_law_64_31law1 rfl rfl rfl) (dk_by (j := 4) rfl ck_L_law_64_31law1 rfl rfl rfl) (dk_by (j := 5) rfl ck_L_law_64_31law1 rfl rfl rfl) (by decide)
theorem dL_law_1030 : decode cL_law 1030 = .ok (.pop, 1) := dk_0 (dk_k87 1030) (dk_by (j := 6) rfl ck_L_law_64_31law1 rfl rfl rfl)
theorem dL_law_1031 : decode cL_law 1031 = .ok (.goto 803, 3) := dk_s (dk_k167 1031) (dk_by (j := 7) rfl ck_L_law_64_31law1 rfl rfl rfl) (dk_by (j := 8) rfl ck_L_law_64_31law1 rfl rfl rfl) (dk_by (j := 9) rfl ck_L_law_64_31law1 rfl rfl rfl) (by decide)
theorem dL_law_1034 : decode cL_law 1034 = .ok (.aload_n 1, 1) := dk_0 (dk_k43 1034) (dk_by (j := 10) rfl ck_L_law_64_31law1 rfl rfl rfl)
theorem dL_law_1035 : decode cL_law 1035 = .ok (.aload_n 0, 1) := dk_0 (dk_k42 1035) (dk_by (j := 11) rfl ck_L_law_64_31law1 rfl rfl rfl)
theorem dL_law_1036 : decode cL_law 1036 = .ok (.iload_n 3, 1) := dk_0 (dk_k29 1036) (dk_by (j := 12) rfl ck_L_law_64_31law1 rfl rfl rfl)
theorem dL_law_1037 : decode cL_law 1037 = .ok (.iconst 1, 1) := dk_0 (dk_k4 1037) (dk_by (j := 13) rfl ck_L_law_64_31law1 rfl rfl rfl)
theorem dL_law_1038 : decode cL_law 1038 = .ok (.iadd, 1) := dk_0 (dk_k96 1038) (dk_by (j := 14) rfl ck_L_law_64_31law1 rfl rfl rfl)
theorem dL_law_1039 : decode cL_law 1039 = .ok (.iaload, 1) := dk_0 (dk_k46 1039) (dk_by (j := 15) rfl ck_L_law_64_31law1 rfl rfl rfl)
theorem gL_law_X11_stays : GoodIn lw_tbl (wsV RL 96 RX11 yX11_stays wsX11_stays) := ru_gL (ru_gV tw_4_4 tw_4_5 tw_4_6 tw_1_1 mT_X11_stays)
theorem dL_law_1040 : decode cL_law 1040 = .ok (.invokevirtual 96, 3) := dk_2 (dk_k182 1040) (dk_by (j := 0) rfl ck_L_law_65_31law1 rfl rfl rfl) (dk_by (j := 1) rfl ck_L_law_65_31law1 rfl rfl rfl) (dk_by (j := 2) rfl ck_L_law_65_31law1 rfl rfl rfl) (by decide)
theorem dL_law_1043 : decode cL_law 1043 = .ok (.pop, 1) := dk_0 (dk_k87 1043) (dk_by (j := 3) rfl ck_L_law_65_31law1 rfl rfl rfl)
theorem dL_law_1044 : decode cL_law 1044 = .ok (.aload_n 2, 1) := dk_0 (dk_k44 1044) (dk_by (j := 4) rfl ck_L_law_65_31law1 rfl rfl rfl)
theorem dL_law_1045 : decode cL_law 1045 = .ok (.aload_n 0, 1) := dk_0 (dk_k42 1045) (dk_by (j := 5) rfl ck_L_law_65_31law1 rfl rfl rfl)
theorem dL_law_1046 : decode cL_law 1046 = .ok (.iload_n 3, 1) := dk_0 (dk_k29 1046) (dk_by (j := 6) rfl ck_L_law_65_31law1 rfl rfl rfl)
theorem dL_law_1047 : decode cL_law 1047 = .ok (.iconst 1, 1) := dk_0 (dk_k4 1047) (dk_by (j := 7) rfl ck_L_law_65_31law1 rfl rfl rfl)
theorem dL_law_1048 : decode cL_law 1048 = .ok (.iadd, 1) := dk_0 (dk_k96 1048) (dk_by (j := 8) rfl ck_L_law_65_31law1 rfl rfl rfl)
theorem dL_law_1049 : decode cL_law 1049 = .ok (.iaload, 1) := dk_0 (dk_k46 1049) (dk_by (j := 9) rfl ck_L_law_65_31law1 rfl rfl rfl)
theorem gL_law_X12_stays : GoodIn lw_tbl (wsV RL 99 RX12 yX12_stays wsX12_stays) := ru_gL (ru_gV tw_7_31 tw_7_32 tw_7_33 tw_1_12 mT_X12_stays)
theorem dL_law_1050 : decode cL_law 1050 = .ok (.invokevirtual 99, 3) := dk_2 (dk_k182 1050) (dk_by (j := 10) rfl ck_L_law_65_31law1 rfl rfl rfl) (dk_by (j := 11) rfl ck_L_law_65_31law1 rfl rfl rfl) (dk_by (j := 12) rfl ck_L_law_65_31law1 rfl rfl rfl) (by decide)
theorem dL_law_1053 : decode cL_law 1053 = .ok (.pop, 1) := dk_0 (dk_k87 1053) (dk_by (j := 13) rfl ck_L_law_65_31law1 rfl rfl rfl)
theorem dL_law_1054 : decode cL_law 1054 = .ok (.goto 780, 3) := dk_s (dk_k167 1054) (dk_by (j := 14) rfl ck_L_law_65_31law1 rfl rfl rfl) (dk_by (j := 15) rfl ck_L_law_65_31law1 rfl rfl rfl) (dk_by (j := 0) rfl ck_L_law_66_31law1 rfl rfl rfl) (by decide)
theorem dL_law_1057 : decode cL_law 1057 = .ok (.aload_n 1, 1) := dk_0 (dk_k43 1057) (dk_by (j := 1) rfl ck_L_law_66_31law1 rfl rfl rfl)
theorem dL_law_1058 : decode cL_law 1058 = .ok (.aload_n 0, 1) := dk_0 (dk_k42 1058) (dk_by (j := 2) rfl ck_L_law_66_31law1 rfl rfl rfl)
theorem dL_law_1059 : decode cL_law 1059 = .ok (.iload_n 3, 1) := dk_0 (dk_k29 1059) (dk_by (j := 3) rfl ck_L_law_66_31law1 rfl rfl rfl)
theorem dL_law_1060 : decode cL_law 1060 = .ok (.iconst 1, 1) := dk_0 (dk_k4 1060) (dk_by (j := 4) rfl ck_L_law_66_31law1 rfl rfl rfl)
theorem dL_law_1061 : decode cL_law 1061 = .ok (.iadd, 1) := dk_0 (dk_k96 1061) (dk_by (j := 5) rfl ck_L_law_66_31law1 rfl rfl rfl)
theorem dL_law_1062 : decode cL_law 1062 = .ok (.iaload, 1) := dk_0 (dk_k46 1062) (dk_by (j := 6) rfl ck_L_law_66_31law1 rfl rfl rfl)
theorem dL_law_1063 : decode cL_law 1063 = .ok (.aload_n 0, 1) := dk_0 (dk_k42 1063) (dk_by (j := 7) rfl ck_L_law_66_31law1 rfl rfl rfl)
theorem dL_law_1064 : decode cL_law 1064 = .ok (.iload_n 3, 1) := dk_0 (dk_k29 1064) (dk_by (j := 8) rfl ck_L_law_66_31law1 rfl rfl rfl)
theorem dL_law_1065 : decode cL_law 1065 = .ok (.iconst 2, 1) := dk_0 (dk_k5 1065) (dk_by (j := 9) rfl ck_L_law_66_31law1 rfl rfl rfl)
theorem dL_law_1066 : decode cL_law 1066 = .ok (.iadd, 1) := dk_0 (dk_k96 1066) (dk_by (j := 10) rfl ck_L_law_66_31law1 rfl rfl rfl)
theorem dL_law_1067 : decode cL_law 1067 = .ok (.iaload, 1) := dk_0 (dk_k46 1067) (dk_by (j := 11) rfl ck_L_law_66_31law1 rfl rfl rfl)
theorem dL_law_1068 : decode cL_law 1068 = .ok (.aload_n 0, 1) := dk_0 (dk_k42 1068) (dk_by (j := 12) rfl ck_L_law_66_31law1 rfl rfl rfl)
theorem dL_law_1069 : decode cL_law 1069 = .ok (.iload_n 3, 1) := dk_0 (dk_k29 1069) (dk_by (j := 13) rfl ck_L_law_66_31law1 rfl rfl rfl)
theorem dL_law_1070 : decode cL_law 1070 = .ok (.iconst 3, 1) := dk_0 (dk_k6 1070) (dk_by (j := 14) rfl ck_L_law_66_31law1 rfl rfl rfl)
theorem dL_law_1071 : decode cL_law 1071 = .ok (.iadd, 1) := dk_0 (dk_k96 1071) (dk_by (j := 15) rfl ck_L_law_66_31law1 rfl rfl rfl)
theorem dL_law_1072 : decode cL_law 1072 = .ok (.iaload, 1) := dk_0 (dk_k46 1072) (dk_by (j := 0) rfl ck_L_law_67_31law1 rfl rfl rfl)
theorem dL_law_1073 : decode cL_law 1073 = .ok (.aload_n 0, 1) := dk_0 (dk_k42 1073) (dk_by (j := 1) rfl ck_L_law_67_31law1 rfl rfl rfl)
theorem dL_law_1074 : decode cL_law 1074 = .ok (.iload_n 3, 1) := dk_0 (dk_k29 1074) (dk_by (j := 2) rfl ck_L_law_67_31law1 rfl rfl rfl)
theorem dL_law_1075 : decode cL_law 1075 = .ok (.iconst 4, 1) := dk_0 (dk_k7 1075) (dk_by (j := 3) rfl ck_L_law_67_31law1 rfl rfl rfl)
theorem dL_law_1076 : decode cL_law 1076 = .ok (.iadd, 1) := dk_0 (dk_k96 1076) (dk_by (j := 4) rfl ck_L_law_67_31law1 rfl rfl rfl)
theorem dL_law_1077 : decode cL_law 1077 = .ok (.iaload, 1) := dk_0 (dk_k46 1077) (dk_by (j := 5) rfl ck_L_law_67_31law1 rfl rfl rfl)
theorem gL_law_X11_comes : GoodIn lw_tbl (wsV RL 100 RX11 yX11_comes wsX11_comes) := ru_gL (ru_gV tw_4_8 tw_4_9 tw_4_10 tw_1_1 mT_X11_comes)
theorem dL_law_1078 : decode cL_law 1078 = .ok (.invokevirtual 100, 3) := dk_2 (dk_k182 1078) (dk_by (j := 6) rfl ck_L_law_67_31law1 rfl rfl rfl) (dk_by (j := 7) rfl ck_L_law_67_31law1 rfl rfl rfl) (dk_by (j := 8) rfl ck_L_law_67_31law1 rfl rfl rfl) (by decide)
theorem dL_law_1081 : decode cL_law 1081 = .ok (.pop, 1) := dk_0 (dk_k87 1081) (dk_by (j := 9) rfl ck_L_law_67_31law1 rfl rfl rfl)
theorem dL_law_1082 : decode cL_law 1082 = .ok (.aload_n 2, 1) := dk_0 (dk_k44 1082) (dk_by (j := 10) rfl ck_L_law_67_31law1 rfl rfl rfl)
theorem dL_law_1083 : decode cL_law 1083 = .ok (.aload_n 0, 1) := dk_0 (dk_k42 1083) (dk_by (j := 11) rfl ck_L_law_67_31law1 rfl rfl rfl)
theorem dL_law_1084 : decode cL_law 1084 = .ok (.iload_n 3, 1) := dk_0 (dk_k29 1084) (dk_by (j := 12) rfl ck_L_law_67_31law1 rfl rfl rfl)
theorem dL_law_1085 : decode cL_law 1085 = .ok (.iconst 1, 1) := dk_0 (dk_k4 1085) (dk_by (j := 13) rfl ck_L_law_67_31law1 rfl rfl rfl)
theorem dL_law_1086 : decode cL_law 1086 = .ok (.iadd, 1) := dk_0 (dk_k96 1086) (dk_by (j := 14) rfl ck_L_law_67_31law1 rfl rfl rfl)
theorem dL_law_1087 : decode cL_law 1087 = .ok (.iaload, 1) := dk_0 (dk_k46 1087) (dk_by (j := 15) rfl ck_L_law_67_31law1 rfl rfl rfl)
theorem dL_law_1088 : decode cL_law 1088 = .ok (.aload_n 0, 1) := dk_0 (dk_k42 1088) (dk_by (j := 0) rfl ck_L_law_68_31law1 rfl rfl rfl)
theorem dL_law_1089 : decode cL_law 1089 = .ok (.iload_n 3, 1) := dk_0 (dk_k29 1089) (dk_by (j := 1) rfl ck_L_law_68_31law1 rfl rfl rfl)
theorem dL_law_1090 : decode cL_law 1090 = .ok (.iconst 2, 1) := dk_0 (dk_k5 1090) (dk_by (j := 2) rfl ck_L_law_68_31law1 rfl rfl rfl)
theorem dL_law_1091 : decode cL_law 1091 = .ok (.iadd, 1) := dk_0 (dk_k96 1091) (dk_by (j := 3) rfl ck_L_law_68_31law1 rfl rfl rfl)
theorem dL_law_1092 : decode cL_law 1092 = .ok (.iaload, 1) := dk_0 (dk_k46 1092) (dk_by (j := 4) rfl ck_L_law_68_31law1 rfl rfl rfl)
theorem dL_law_1093 : decode cL_law 1093 = .ok (.aload_n 0, 1) := dk_0 (dk_k42 1093) (dk_by (j := 5) rfl ck_L_law_68_31law1 rfl rfl rfl)
theorem dL_law_1094 : decode cL_law 1094 = .ok (.iload_n 3, 1) := dk_0 (dk_k29 1094) (dk_by (j := 6) rfl ck_L_law_68_31law1 rfl rfl rfl)
theorem dL_law_1095 : decode cL_law 1095 = .ok (.iconst 3, 1) := dk_0 (dk_k6 1095) (dk_by (j := 7) rfl ck_L_law_68_31law1 rfl rfl rfl)
theorem dL_law_1096 : decode cL_law 1096 = .ok (.iadd, 1) := dk_0 (dk_k96 1096) (dk_by (j := 8) rfl ck_L_law_68_31law1 rfl rfl rfl)
theorem dL_law_1097 : decode cL_law 1097 = .ok (.iaload, 1) := dk_0 (dk_k46 1097) (dk_by (j := 9) rfl ck_L_law_68_31law1 rfl rfl rfl)
theorem dL_law_1098 : decode cL_law 1098 = .ok (.aload_n 0, 1) := dk_0 (dk_k42 1098) (dk_by (j := 10) rfl ck_L_law_68_31law1 rfl rfl rfl)
theorem dL_law_1099 : decode cL_law 1099 = .ok (.iload_n 3, 1) := dk_0 (dk_k29 1099) (dk_by (j := 11) rfl ck_L_law_68_31law1 rfl rfl rfl)
theorem dL_law_1100 : decode cL_law 1100 = .ok (.iconst 4, 1) := dk_0 (dk_k7 1100) (dk_by (j := 12) rfl ck_L_law_68_31law1 rfl rfl rfl)
theorem dL_law_1101 : decode cL_law 1101 = .ok (.iadd, 1) := dk_0 (dk_k96 1101) (dk_by (j := 13) rfl ck_L_law_68_31law1 rfl rfl rfl)
theorem dL_law_1102 : decode cL_law 1102 = .ok (.iaload, 1) := dk_0 (dk_k46 1102) (dk_by (j := 14) rfl ck_L_law_68_31law1 rfl rfl rfl)
theorem gL_law_X12_comes : GoodIn lw_tbl (wsV RL 103 RX12 yX12_comes wsX12_comes) := ru_gL (ru_gV tw_7_35 tw_7_36 tw_7_37 tw_1_12 mT_X12_comes)
theorem dL_law_1103 : decode cL_law 1103 = .ok (.invokevirtual 103, 3) := dk_2 (dk_k182 1103) (dk_by (j := 15) rfl ck_L_law_68_31law1 rfl rfl rfl) (dk_by (j := 0) rfl ck_L_law_69_31law1 rfl rfl rfl) (dk_by (j := 1) rfl ck_L_law_69_31law1 rfl rfl rfl) (by decide)
theorem dL_law_1106 : decode cL_law 1106 = .ok (.pop, 1) := dk_0 (dk_k87 1106) (dk_by (j := 2) rfl ck_L_law_69_31law1 rfl rfl rfl)
theorem dL_law_1107 : decode cL_law 1107 = .ok (.goto 727, 3) := dk_s (dk_k167 1107) (dk_by (j := 3) rfl ck_L_law_69_31law1 rfl rfl rfl) (dk_by (j := 4) rfl ck_L_law_69_31law1 rfl rfl rfl) (dk_by (j := 5) rfl ck_L_law_69_31law1 rfl rfl rfl) (by decide)
set_option maxHeartbeats 1000000 in
set_option maxRecDepth 20000 in
theorem lb_10 {p : Program} {l : Launch} {e : Env} {s : State} {m : MethodId} {below : List Frame} {meth : Method} {c : Code} {D : va_G} {ad : Nat → Nat → Nat} {C : Nat → Nat → ClassId} {nb : Nat} {M : fm_M} {b L : Nat} {xs : Nat → Int32} {H : Heap} {locs : List Loc} {kc sl : Nat} {i : Int32} (C0 : lw_At p s m meth c b L xs) (hkc : kc ≤ 10000) (hsl : sl ≤ 300000) (hc : fm_Cx D ad C nb (fun q : Nat => s.heap.size ≤ q) s) (hw : fm_at D ad C nb M H) (hI : fm_I nb ad M) (hS : va_S (fun q : Nat => s.heap.size ≤ q) s.heap H locs) (hi : 0 ≤ i.toInt ∧ i.toInt + 6 ≤ L) (hL : L ≤ 3072) (hrel : M.1 0 0 10 = M.1 60 0 16 ∧ (∀ j : Nat, j < nb → M.1 50 j 0 = M.1 110 0 j) ∧ (∀ j : Nat, j < nb → M.1 50 j 3 = M.1 113 0 j)) (kk : ∀ (M1 : fm_M) (H1 : Heap) (locs1 : List Loc), fm_at D ad C nb M1 H1 → fm_I nb ad M1 → va_S (fun q : Nat => s.heap.size ≤ q) s.heap H1 locs1 → M1.1 0 0 10 = M1.1 60 0 16 ∧ (∀ j : Nat, j < nb → M1.1 50 j 0 = M1.1 110 0 j) ∧ (∀ j : Nat, j < nb → M1.1 50 j 3 = M1.1 113 0 j) → ∀ ls : Array Slot, lv_has ls 4 [(3, .int i), (2, .ref (ad 60 0)), (1, .ref (ad 0 0)), (0, .ref b)] → W p l e room_1 s m #[Value.ref b] below meth c H1 locs1 kc sl (lw_Z below #[Value.ref b] s) (F0 m 1834 ls [])) (ls : Array Slot) (hl : lv_has ls 4 [(3, .int i), (2, .ref (ad 60 0)), (1, .ref (ad 0 0)), (0, .ref b)]) : W p l e room_1 s m #[Value.ref b] below meth c H locs kc sl (lw_Z below #[Value.ref b] s) (F0 m 670 ls []) := by
  obtain ⟨hx, hb, hr, hml, hown, hts, hX, hbl, hlocks, hgv⟩ := id C0
  have hown : s.vm.findClass RL = some m.cls := hown
  have hb : c.code = cL_law := hb
  have hbA : ¬ (fun q : Nat => s.heap.size ≤ q) b := Nat.not_le.mpr hbl
  have hk1 : kc + 0 ≤ room_1.cells := by show kc + 0 ≤ 600000; omega
  have hs1 : sl + 0 ≤ room_1.slots := by show sl + 0 ≤ 7302250; omega
  have hI0 := hI
  refine lv_aload_n hx hb dL_law_670 rfl (lv_at hl 2 rfl) ?_
  refine lv_aload_n hx hb dL_law_671 rfl (lv_at hl 3 rfl) ?_
  refine lv_iload_n hx hb dL_law_672 rfl (lv_at hl 0 rfl) ?_
  refine lv_iconst (v := 1) hx hb dL_law_673 (by decide) ?_
  refine fx_iadd hx hb dL_law_674 rfl zk_1 (by omega) (fun y1 ey1 ty1 => ?_)
  refine va_sld hx hb hX hbl hbA hS (fm_in (by omega)) dL_law_675 ?_
  refine lv_topi (fun x2 ex2 => ?_)
  refine lv_aload_n hx hb dL_law_676 rfl (lv_at hl 3 rfl) ?_
  refine lv_iload_n hx hb dL_law_677 rfl (lv_at hl 0 rfl) ?_
  refine lv_iconst (v := 2) hx hb dL_law_678 (by decide) ?_
  refine fx_iadd hx hb dL_law_679 rfl zk_2 (by omega) (fun y3 ey3 ty3 => ?_)
  refine va_sld hx hb hX hbl hbA hS (fm_in (by omega)) dL_law_680 ?_
  refine lv_topi (fun x4 ex4 => ?_)
  refine fm_ci (va_runV (As := [.int x2, .int x4]) (rest := []) ⟨hx, hb, hml, hown, hts⟩ (fc_X11_canHear l D ad C nb M hI x2 x4) (cwV 2 hts gL_law_X11_canHear rfl rfl rfl (by decide +kernel) ⟨Nat.le_of_ble_eq_true rfl, Nat.le_of_ble_eq_true rfl⟩) (fm_preV hc hw hS kl_0 sh_0 rfl) rfl rfl hl.1 rfl (lv_room (Nat.le_of_ble_eq_true rfl)) dL_law_681 ⟨hk1, hs1⟩) hS hc (fun r5 M6 H locs hr5 hw hS => ?_)
  obtain ⟨hI, hEM6, hr5⟩ := hr5
  refine lv_pop hx hb dL_law_684 rfl ?_
  refine lv_aload_n hx hb dL_law_685 rfl (lv_at hl 1 rfl) ?_
  refine lv_aload_n hx hb dL_law_686 rfl (lv_at hl 3 rfl) ?_
  refine lv_iload_n hx hb dL_law_687 rfl (lv_at hl 0 rfl) ?_
  refine lv_iconst (v := 1) hx hb dL_law_688 (by decide) ?_
  refine fx_iadd hx hb dL_law_689 rfl zk_1 (by omega) (fun y7 ey7 ty7 => ?_)
  refine va_sld hx hb hX hbl hbA hS (fm_in (by omega)) dL_law_690 ?_
  refine lv_topi (fun x8 ex8 => ?_)
  have qx8 : x2 = x8 := by rw [ex8, ex2, ey7, ey1]
  clear ex8
  subst qx8
  refine lv_aload_n hx hb dL_law_691 rfl (lv_at hl 3 rfl) ?_
  refine lv_iload_n hx hb dL_law_692 rfl (lv_at hl 0 rfl) ?_
  refine lv_iconst (v := 2) hx hb dL_law_693 (by decide) ?_
  refine fx_iadd hx hb dL_law_694 rfl zk_2 (by omega) (fun y9 ey9 ty9 => ?_)
  refine va_sld hx hb hX hbl hbA hS (fm_in (by omega)) dL_law_695 ?_
  refine lv_topi (fun x10 ex10 => ?_)
  have qx10 : x4 = x10 := by rw [ex10, ex4, ey9, ey3]
  clear ex10
  subst qx10
  refine vp_callSi (va_Run.run (va_runV (As := [.int x2, .int x4]) (rest := []) ⟨hx, hb, hml, hown, hts⟩ (fc_X12_canHear l D ad C nb M6 hI x2 x4) (cwV 2 hts gL_law_X12_canHear rfl rfl rfl (by decide +kernel) ⟨Nat.le_of_ble_eq_true rfl, Nat.le_of_ble_eq_true rfl⟩) (fm_preV hc hw hS kl_60 sh_60 rfl) rfl rfl hl.1 rfl (lv_room (Nat.le_of_ble_eq_true rfl)) dL_law_696 ⟨hk1, hs1⟩)) (fun r11 hr11 => ?_)
  refine lv_pop hx hb dL_law_699 rfl ?_
  refine lv_goto (tgt := 1834) hx hb dL_law_700 (by decide) ?_
  have hr90 : M6.1 0 0 10 = M6.1 60 0 16 := by rw [(hEM6 0 0 10 (by decide)).1, (hEM6 60 0 16 (by decide)).1]; exact hrel.1
  have hr91 : (∀ j : Nat, j < nb → M6.1 50 j 0 = M6.1 110 0 j) := fun j hj => by rw [(hEM6 50 j 0 (by decide)).1, (hEM6 110 0 j (by rw [cd_110]; decide)).1]; exact hrel.2.1 j hj
  have hr92 : (∀ j : Nat, j < nb → M6.1 50 j 3 = M6.1 113 0 j) := fun j hj => by rw [(hEM6 50 j 3 (by decide)).1, (hEM6 113 0 j (by rw [cd_113]; decide)).1]; exact hrel.2.2 j hj
  have hrel9 : M6.1 0 0 10 = M6.1 60 0 16 ∧ (∀ j : Nat, j < nb → M6.1 50 j 0 = M6.1 110 0 j) ∧ (∀ j : Nat, j < nb → M6.1 50 j 3 = M6.1 113 0 j) := ⟨hr90, hr91, hr92⟩
  exact kk M6 _ _ hw hI hS hrel9 ls (lv_sub hl [0, 1, 2, 3] rfl)
set_option maxHeartbeats 1000000 in
set_option maxRecDepth 20000 in
theorem lb_11 {p : Program} {l : Launch} {e : Env} {s : State} {m : MethodId} {below : List Frame} {meth : Method} {c : Code} {D : va_G} {ad : Nat → Nat → Nat} {C : Nat → Nat → ClassId} {nb : Nat} {M : fm_M} {b L : Nat} {xs : Nat → Int32} {H : Heap} {locs : List Loc} {kc sl : Nat} {i : Int32} (C0 : lw_At p s m meth c b L xs) (hkc : kc ≤ 10000) (hsl : sl ≤ 300000) (hc : fm_Cx D ad C nb (fun q : Nat => s.heap.size ≤ q) s) (hw : fm_at D ad C nb M H) (hI : fm_I nb ad M) (hS : va_S (fun q : Nat => s.heap.size ≤ q) s.heap H locs) (hi : 0 ≤ i.toInt ∧ i.toInt + 6 ≤ L) (hL : L ≤ 3072) (hrel : M.1 0 0 10 = M.1 60 0 16 ∧ (∀ j : Nat, j < nb → M.1 50 j 0 = M.1 110 0 j) ∧ (∀ j : Nat, j < nb → M.1 50 j 3 = M.1 113 0 j)) (kk : ∀ (M1 : fm_M) (H1 : Heap) (locs1 : List Loc), fm_at D ad C nb M1 H1 → fm_I nb ad M1 → va_S (fun q : Nat => s.heap.size ≤ q) s.heap H1 locs1 → M1.1 0 0 10 = M1.1 60 0 16 ∧ (∀ j : Nat, j < nb → M1.1 50 j 0 = M1.1 110 0 j) ∧ (∀ j : Nat, j < nb → M1.1 50 j 3 = M1.1 113 0 j) → ∀ ls : Array Slot, lv_has ls 4 [(3, .int i), (2, .ref (ad 60 0)), (1, .ref (ad 0 0)), (0, .ref b)] → W p l e room_1 s m #[Value.ref b] below meth c H1 locs1 kc sl (lw_Z below #[Value.ref b] s) (F0 m 1834 ls [])) (ls : Array Slot) (hl : lv_has ls 4 [(3, .int i), (2, .ref (ad 60 0)), (1, .ref (ad 0 0)), (0, .ref b)]) : W p l e room_1 s m #[Value.ref b] below meth c H locs kc sl (lw_Z below #[Value.ref b] s) (F0 m 703 ls []) := by
  obtain ⟨hx, hb, hr, hml, hown, hts, hX, hbl, hlocks, hgv⟩ := id C0
  have hown : s.vm.findClass RL = some m.cls := hown
  have hb : c.code = cL_law := hb
  have hbA : ¬ (fun q : Nat => s.heap.size ≤ q) b := Nat.not_le.mpr hbl
  have hk1 : kc + 0 ≤ room_1.cells := by show kc + 0 ≤ 600000; omega
  have hs1 : sl + 0 ≤ room_1.slots := by show sl + 0 ≤ 7302250; omega
  have hI0 := hI
  refine lv_aload_n hx hb dL_law_703 rfl (lv_at hl 2 rfl) ?_
  refine lv_aload_n hx hb dL_law_704 rfl (lv_at hl 3 rfl) ?_
  refine lv_iload_n hx hb dL_law_705 rfl (lv_at hl 0 rfl) ?_
  refine lv_iconst (v := 1) hx hb dL_law_706 (by decide) ?_
  refine fx_iadd hx hb dL_law_707 rfl zk_1 (by omega) (fun y1 ey1 ty1 => ?_)
  refine va_sld hx hb hX hbl hbA hS (fm_in (by omega)) dL_law_708 ?_
  refine lv_topi (fun x2 ex2 => ?_)
  refine lv_aload_n hx hb dL_law_709 rfl (lv_at hl 3 rfl) ?_
  refine lv_iload_n hx hb dL_law_710 rfl (lv_at hl 0 rfl) ?_
  refine lv_iconst (v := 2) hx hb dL_law_711 (by decide) ?_
  refine fx_iadd hx hb dL_law_712 rfl zk_2 (by omega) (fun y3 ey3 ty3 => ?_)
  refine va_sld hx hb hX hbl hbA hS (fm_in (by omega)) dL_law_713 ?_
  refine lv_topi (fun x4 ex4 => ?_)
  refine lv_aload_n hx hb dL_law_714 rfl (lv_at hl 3 rfl) ?_
  refine lv_iload_n hx hb dL_law_715 rfl (lv_at hl 0 rfl) ?_
  refine lv_iconst (v := 3) hx hb dL_law_716 (by decide) ?_
  refine fx_iadd hx hb dL_law_717 rfl zk_3 (by omega) (fun y5 ey5 ty5 => ?_)
  refine va_sld hx hb hX hbl hbA hS (fm_in (by omega)) dL_law_718 ?_
  refine lv_topi (fun x6 ex6 => ?_)
  refine lv_aload_n hx hb dL_law_719 rfl (lv_at hl 3 rfl) ?_
  refine lv_iload_n hx hb dL_law_720 rfl (lv_at hl 0 rfl) ?_
  refine lv_iconst (v := 4) hx hb dL_law_721 (by decide) ?_
  refine fx_iadd hx hb dL_law_722 rfl zk_4 (by omega) (fun y7 ey7 ty7 => ?_)
  refine va_sld hx hb hX hbl hbA hS (fm_in (by omega)) dL_law_723 ?_
  refine lv_topi (fun x8 ex8 => ?_)
  refine fx_i2l hx hb dL_law_724 rfl (fun y9 ey9 ty9 => ?_)
  refine lv_bipush (v := 32) hx hb dL_law_725 (by decide) ?_
  refine lv_lshl (v := y9 <<< ((32 : Int32).toInt64 &&& 63)) hx hb dL_law_727 rfl ?_
  refine lv_topl (fun y10 ey10 => ?_)
  refine lv_aload_n hx hb dL_law_728 rfl (lv_at hl 3 rfl) ?_
  refine lv_iload_n hx hb dL_law_729 rfl (lv_at hl 0 rfl) ?_
  refine lv_iconst (v := 5) hx hb dL_law_730 (by decide) ?_
  refine fx_iadd hx hb dL_law_731 rfl zk_5 (by omega) (fun y11 ey11 ty11 => ?_)
  refine va_sld hx hb hX hbl hbA hS (fm_in (by omega)) dL_law_732 ?_
  refine lv_topi (fun x12 ex12 => ?_)
  refine fx_i2l hx hb dL_law_733 rfl (fun y13 ey13 ty13 => ?_)
  refine lv_ldc2 (v := 4294967295) hx hb hown (hts (.constantLong RL 42 (4294967295)) (rt_pc_in 7 _ (List.mem_of_getElem? (i := 231) (by decide +kernel)))) dL_law_734 ?_
  refine lv_land hx hb dL_law_737 ?_
  refine lv_topl (fun y14 ey14 => ?_)
  refine lv_lor hx hb dL_law_738 ?_
  refine lv_topl (fun y15 ey15 => ?_)
  refine fm_ci (va_runV (As := [.int x2, .int x4, .int x6, .long y15]) (rest := []) ⟨hx, hb, hml, hown, hts⟩ (fc_X11_part l D ad C nb M hI x2 x4 x6 y15) (cwV 4 hts gL_law_X11_part rfl rfl rfl (by decide +kernel) ⟨Nat.le_of_ble_eq_true rfl, Nat.le_of_ble_eq_true rfl⟩) (fm_preV hc hw hS kl_0 sh_0 rfl) rfl rfl hl.1 rfl (lv_room (Nat.le_of_ble_eq_true rfl)) dL_law_739 ⟨hk1, hs1⟩) hS hc (fun r16 M17 H locs hr16 hw hS => ?_)
  obtain ⟨hI, hEM17, hr16⟩ := hr16
  refine lv_pop hx hb dL_law_742 rfl ?_
  refine lv_aload_n hx hb dL_law_743 rfl (lv_at hl 1 rfl) ?_
  refine lv_aload_n hx hb dL_law_744 rfl (lv_at hl 3 rfl) ?_
  refine lv_iload_n hx hb dL_law_745 rfl (lv_at hl 0 rfl) ?_
  refine lv_iconst (v := 1) hx hb dL_law_746 (by decide) ?_
  refine fx_iadd hx hb dL_law_747 rfl zk_1 (by omega) (fun y18 ey18 ty18 => ?_)
  refine va_sld hx hb hX hbl hbA hS (fm_in (by omega)) dL_law_748 ?_
  refine lv_topi (fun x19 ex19 => ?_)
  have qx19 : x2 = x19 := by rw [ex19, ex2, ey18, ey1]
  clear ex19
  subst qx19
  refine lv_aload_n hx hb dL_law_749 rfl (lv_at hl 3 rfl) ?_
  refine lv_iload_n hx hb dL_law_750 rfl (lv_at hl 0 rfl) ?_
  refine lv_iconst (v := 2) hx hb dL_law_751 (by decide) ?_
  refine fx_iadd hx hb dL_law_752 rfl zk_2 (by omega) (fun y20 ey20 ty20 => ?_)
  refine va_sld hx hb hX hbl hbA hS (fm_in (by omega)) dL_law_753 ?_
  refine lv_topi (fun x21 ex21 => ?_)
  have qx21 : x4 = x21 := by rw [ex21, ex4, ey20, ey3]
  clear ex21
  subst qx21
  refine lv_aload_n hx hb dL_law_754 rfl (lv_at hl 3 rfl) ?_
  refine lv_iload_n hx hb dL_law_755 rfl (lv_at hl 0 rfl) ?_
  refine lv_iconst (v := 3) hx hb dL_law_756 (by decide) ?_
  refine fx_iadd hx hb dL_law_757 rfl zk_3 (by omega) (fun y22 ey22 ty22 => ?_)
  refine va_sld hx hb hX hbl hbA hS (fm_in (by omega)) dL_law_758 ?_
  refine lv_topi (fun x23 ex23 => ?_)
  have qx23 : x6 = x23 := by rw [ex23, ex6, ey22, ey5]
  clear ex23
  subst qx23
  refine lv_aload_n hx hb dL_law_759 rfl (lv_at hl 3 rfl) ?_
  refine lv_iload_n hx hb dL_law_760 rfl (lv_at hl 0 rfl) ?_
  refine lv_iconst (v := 4) hx hb dL_law_761 (by decide) ?_
  refine fx_iadd hx hb dL_law_762 rfl zk_4 (by omega) (fun y24 ey24 ty24 => ?_)
  refine va_sld hx hb hX hbl hbA hS (fm_in (by omega)) dL_law_763 ?_
  refine lv_topi (fun x25 ex25 => ?_)
  have qx25 : x8 = x25 := by rw [ex25, ex8, ey24, ey7]
  clear ex25
  subst qx25
  refine fx_i2l hx hb dL_law_764 rfl (fun y26 ey26 ty26 => ?_)
  refine lv_bipush (v := 32) hx hb dL_law_765 (by decide) ?_
  refine lv_lshl (v := y26 <<< ((32 : Int32).toInt64 &&& 63)) hx hb dL_law_767 rfl ?_
  refine lv_topl (fun y27 ey27 => ?_)
  refine lv_aload_n hx hb dL_law_768 rfl (lv_at hl 3 rfl) ?_
  refine lv_iload_n hx hb dL_law_769 rfl (lv_at hl 0 rfl) ?_
  refine lv_iconst (v := 5) hx hb dL_law_770 (by decide) ?_
  refine fx_iadd hx hb dL_law_771 rfl zk_5 (by omega) (fun y28 ey28 ty28 => ?_)
  refine va_sld hx hb hX hbl hbA hS (fm_in (by omega)) dL_law_772 ?_
  refine lv_topi (fun x29 ex29 => ?_)
  have qx29 : x12 = x29 := by rw [ex29, ex12, ey28, ey11]
  clear ex29
  subst qx29
  refine fx_i2l hx hb dL_law_773 rfl (fun y30 ey30 ty30 => ?_)
  refine lv_ldc2 (v := 4294967295) hx hb hown (hts (.constantLong RL 42 (4294967295)) (rt_pc_in 7 _ (List.mem_of_getElem? (i := 231) (by decide +kernel)))) dL_law_774 ?_
  refine lv_land hx hb dL_law_777 ?_
  refine lv_topl (fun y31 ey31 => ?_)
  refine lv_lor hx hb dL_law_778 ?_
  refine lv_topl (fun y32 ey32 => ?_)
  have qy32 : y15 = y32 := by rw [ey15, ey10, ey9, ey14, ey13, ey32, ey27, ey26, ey31, ey30]
  clear ey32
  subst qy32
  refine fm_ci (va_runV (As := [.int x2, .int x4, .int x6, .long y15]) (rest := []) ⟨hx, hb, hml, hown, hts⟩ (fc_X12_part l D ad C nb M17 hI x2 x4 x6 y15) (cwV 4 hts gL_law_X12_part rfl rfl rfl (by decide +kernel) ⟨Nat.le_of_ble_eq_true rfl, Nat.le_of_ble_eq_true rfl⟩) (fm_preV hc hw hS kl_60 sh_60 rfl) rfl rfl hl.1 rfl (lv_room (Nat.le_of_ble_eq_true rfl)) dL_law_779 ⟨hk1, hs1⟩) hS hc (fun r33 M34 H locs hr33 hw hS => ?_)
  obtain ⟨hI, hEM34, hr33⟩ := hr33
  refine lv_pop hx hb dL_law_782 rfl ?_
  refine lv_goto (tgt := 1834) hx hb dL_law_783 (by decide) ?_
  have hr90 : M34.1 0 0 10 = M34.1 60 0 16 := by rw [(hEM34 0 0 10 (by decide)).1, (hEM17 0 0 10 (by decide)).1, (hEM34 60 0 16 (by decide)).1, (hEM17 60 0 16 (by decide)).1]; exact hrel.1
  have hr91 : (∀ j : Nat, j < nb → M34.1 50 j 0 = M34.1 110 0 j) := fun j hj => by rw [(hEM34 50 j 0 (by decide)).1, (hEM17 50 j 0 (by decide)).1, (hEM34 110 0 j (by rw [cd_110]; decide)).1, (hEM17 110 0 j (by rw [cd_110]; decide)).1]; exact hrel.2.1 j hj
  have hr92 : (∀ j : Nat, j < nb → M34.1 50 j 3 = M34.1 113 0 j) := fun j hj => by rw [(hEM34 50 j 3 (by decide)).1, (hEM17 50 j 3 (by decide)).1, (hEM34 113 0 j (by rw [cd_113]; decide)).1, (hEM17 113 0 j (by rw [cd_113]; decide)).1]; exact hrel.2.2 j hj
  have hrel9 : M34.1 0 0 10 = M34.1 60 0 16 ∧ (∀ j : Nat, j < nb → M34.1 50 j 0 = M34.1 110 0 j) ∧ (∀ j : Nat, j < nb → M34.1 50 j 3 = M34.1 113 0 j) := ⟨hr90, hr91, hr92⟩
  exact kk M34 _ _ hw hI hS hrel9 ls (lv_sub hl [0, 1, 2, 3] rfl)
set_option maxHeartbeats 1000000 in
set_option maxRecDepth 20000 in
theorem lb_12 {p : Program} {l : Launch} {e : Env} {s : State} {m : MethodId} {below : List Frame} {meth : Method} {c : Code} {D : va_G} {ad : Nat → Nat → Nat} {C : Nat → Nat → ClassId} {nb : Nat} {M : fm_M} {b L : Nat} {xs : Nat → Int32} {H : Heap} {locs : List Loc} {kc sl : Nat} {i : Int32} (C0 : lw_At p s m meth c b L xs) (hkc : kc ≤ 10000) (hsl : sl ≤ 300000) (hc : fm_Cx D ad C nb (fun q : Nat => s.heap.size ≤ q) s) (hw : fm_at D ad C nb M H) (hI : fm_I nb ad M) (hS : va_S (fun q : Nat => s.heap.size ≤ q) s.heap H locs) (hi : 0 ≤ i.toInt ∧ i.toInt + 6 ≤ L) (hL : L ≤ 3072) (hrel : M.1 0 0 10 = M.1 60 0 16 ∧ (∀ j : Nat, j < nb → M.1 50 j 0 = M.1 110 0 j) ∧ (∀ j : Nat, j < nb → M.1 50 j 3 = M.1 113 0 j)) (kk : ∀ (M1 : fm_M) (H1 : Heap) (locs1 : List Loc), fm_at D ad C nb M1 H1 → fm_I nb ad M1 → va_S (fun q : Nat => s.heap.size ≤ q) s.heap H1 locs1 → M1.1 0 0 10 = M1.1 60 0 16 ∧ (∀ j : Nat, j < nb → M1.1 50 j 0 = M1.1 110 0 j) ∧ (∀ j : Nat, j < nb → M1.1 50 j 3 = M1.1 113 0 j) → ∀ ls : Array Slot, lv_has ls 4 [(3, .int i), (2, .ref (ad 60 0)), (1, .ref (ad 0 0)), (0, .ref b)] → W p l e room_1 s m #[Value.ref b] below meth c H1 locs1 kc sl (lw_Z below #[Value.ref b] s) (F0 m 1834 ls [])) (ls : Array Slot) (hl : lv_has ls 4 [(3, .int i), (2, .ref (ad 60 0)), (1, .ref (ad 0 0)), (0, .ref b)]) : W p l e room_1 s m #[Value.ref b] below meth c H locs kc sl (lw_Z below #[Value.ref b] s) (F0 m 786 ls []) := by
  obtain ⟨hx, hb, hr, hml, hown, hts, hX, hbl, hlocks, hgv⟩ := id C0
  have hown : s.vm.findClass RL = some m.cls := hown
  have hb : c.code = cL_law := hb
  have hbA : ¬ (fun q : Nat => s.heap.size ≤ q) b := Nat.not_le.mpr hbl
  have hk1 : kc + 0 ≤ room_1.cells := by show kc + 0 ≤ 600000; omega
  have hs1 : sl + 0 ≤ room_1.slots := by show sl + 0 ≤ 7302250; omega
  have hI0 := hI
  refine lv_aload_n hx hb dL_law_786 rfl (lv_at hl 2 rfl) ?_
  refine lv_aload_n hx hb dL_law_787 rfl (lv_at hl 3 rfl) ?_
  refine lv_iload_n hx hb dL_law_788 rfl (lv_at hl 0 rfl) ?_
  refine lv_iconst (v := 1) hx hb dL_law_789 (by decide) ?_
  refine fx_iadd hx hb dL_law_790 rfl zk_1 (by omega) (fun y1 ey1 ty1 => ?_)
  refine va_sld hx hb hX hbl hbA hS (fm_in (by omega)) dL_law_791 ?_
  refine lv_topi (fun x2 ex2 => ?_)
  refine lv_aload_n hx hb dL_law_792 rfl (lv_at hl 3 rfl) ?_
  refine lv_iload_n hx hb dL_law_793 rfl (lv_at hl 0 rfl) ?_
  refine lv_iconst (v := 2) hx hb dL_law_794 (by decide) ?_
  refine fx_iadd hx hb dL_law_795 rfl zk_2 (by omega) (fun y3 ey3 ty3 => ?_)
  refine va_sld hx hb hX hbl hbA hS (fm_in (by omega)) dL_law_796 ?_
  refine lv_topi (fun x4 ex4 => ?_)
  refine vp_callSi (va_Run.run (va_runV (As := [.int x2, .int x4]) (rest := []) ⟨hx, hb, hml, hown, hts⟩ (fc_X11_word l D ad C nb M hI x2 x4) (cwV 2 hts gL_law_X11_word rfl rfl rfl (by decide +kernel) ⟨Nat.le_of_ble_eq_true rfl, Nat.le_of_ble_eq_true rfl⟩) (fm_preV hc hw hS kl_0 sh_0 rfl) rfl rfl hl.1 rfl (lv_room (Nat.le_of_ble_eq_true rfl)) dL_law_797 ⟨hk1, hs1⟩)) (fun r5 hr5 => ?_)
  refine lv_pop hx hb dL_law_800 rfl ?_
  refine lv_aload_n hx hb dL_law_801 rfl (lv_at hl 1 rfl) ?_
  refine lv_aload_n hx hb dL_law_802 rfl (lv_at hl 3 rfl) ?_
  refine lv_iload_n hx hb dL_law_803 rfl (lv_at hl 0 rfl) ?_
  refine lv_iconst (v := 1) hx hb dL_law_804 (by decide) ?_
  refine fx_iadd hx hb dL_law_805 rfl zk_1 (by omega) (fun y6 ey6 ty6 => ?_)
  refine va_sld hx hb hX hbl hbA hS (fm_in (by omega)) dL_law_806 ?_
  refine lv_topi (fun x7 ex7 => ?_)
  have qx7 : x2 = x7 := by rw [ex7, ex2, ey6, ey1]
  clear ex7
  subst qx7
  refine lv_aload_n hx hb dL_law_807 rfl (lv_at hl 3 rfl) ?_
  refine lv_iload_n hx hb dL_law_808 rfl (lv_at hl 0 rfl) ?_
  refine lv_iconst (v := 2) hx hb dL_law_809 (by decide) ?_
  refine fx_iadd hx hb dL_law_810 rfl zk_2 (by omega) (fun y8 ey8 ty8 => ?_)
  refine va_sld hx hb hX hbl hbA hS (fm_in (by omega)) dL_law_811 ?_
  refine lv_topi (fun x9 ex9 => ?_)
  have qx9 : x4 = x9 := by rw [ex9, ex4, ey8, ey3]
  clear ex9
  subst qx9
  refine vp_callSi (va_Run.run (va_runV (As := [.int x2, .int x4]) (rest := []) ⟨hx, hb, hml, hown, hts⟩ (fc_X12_word l D ad C nb M hI x2 x4) (cwV 2 hts gL_law_X12_word rfl rfl rfl (by decide +kernel) ⟨Nat.le_of_ble_eq_true rfl, Nat.le_of_ble_eq_true rfl⟩) (fm_preV hc hw hS kl_60 sh_60 rfl) rfl rfl hl.1 rfl (lv_room (Nat.le_of_ble_eq_true rfl)) dL_law_812 ⟨hk1, hs1⟩)) (fun r10 hr10 => ?_)
  refine lv_pop hx hb dL_law_815 rfl ?_
  refine lv_goto (tgt := 1834) hx hb dL_law_816 (by decide) ?_
  have hr90 : M.1 0 0 10 = M.1 60 0 16 := hrel.1
  have hr91 : (∀ j : Nat, j < nb → M.1 50 j 0 = M.1 110 0 j) := fun j hj => by exact hrel.2.1 j hj
  have hr92 : (∀ j : Nat, j < nb → M.1 50 j 3 = M.1 113 0 j) := fun j hj => by exact hrel.2.2 j hj
  have hrel9 : M.1 0 0 10 = M.1 60 0 16 ∧ (∀ j : Nat, j < nb → M.1 50 j 0 = M.1 110 0 j) ∧ (∀ j : Nat, j < nb → M.1 50 j 3 = M.1 113 0 j) := ⟨hr90, hr91, hr92⟩
  exact kk M _ _ hw hI hS hrel9 ls (lv_sub hl [0, 1, 2, 3] rfl)
set_option maxHeartbeats 1000000 in
set_option maxRecDepth 20000 in
theorem lb_13 {p : Program} {l : Launch} {e : Env} {s : State} {m : MethodId} {below : List Frame} {meth : Method} {c : Code} {D : va_G} {ad : Nat → Nat → Nat} {C : Nat → Nat → ClassId} {nb : Nat} {M : fm_M} {b L : Nat} {xs : Nat → Int32} {H : Heap} {locs : List Loc} {kc sl : Nat} {i : Int32} (C0 : lw_At p s m meth c b L xs) (hkc : kc ≤ 10000) (hsl : sl ≤ 300000) (hc : fm_Cx D ad C nb (fun q : Nat => s.heap.size ≤ q) s) (hw : fm_at D ad C nb M H) (hI : fm_I nb ad M) (hS : va_S (fun q : Nat => s.heap.size ≤ q) s.heap H locs) (hi : 0 ≤ i.toInt ∧ i.toInt + 6 ≤ L) (hL : L ≤ 3072) (hrel : M.1 0 0 10 = M.1 60 0 16 ∧ (∀ j : Nat, j < nb → M.1 50 j 0 = M.1 110 0 j) ∧ (∀ j : Nat, j < nb → M.1 50 j 3 = M.1 113 0 j)) (kk : ∀ (M1 : fm_M) (H1 : Heap) (locs1 : List Loc), fm_at D ad C nb M1 H1 → fm_I nb ad M1 → va_S (fun q : Nat => s.heap.size ≤ q) s.heap H1 locs1 → M1.1 0 0 10 = M1.1 60 0 16 ∧ (∀ j : Nat, j < nb → M1.1 50 j 0 = M1.1 110 0 j) ∧ (∀ j : Nat, j < nb → M1.1 50 j 3 = M1.1 113 0 j) → ∀ ls : Array Slot, lv_has ls 4 [(3, .int i), (2, .ref (ad 60 0)), (1, .ref (ad 0 0)), (0, .ref b)] → W p l e room_1 s m #[Value.ref b] below meth c H1 locs1 kc sl (lw_Z below #[Value.ref b] s) (F0 m 1834 ls [])) (ls : Array Slot) (hl : lv_has ls 4 [(3, .int i), (2, .ref (ad 60 0)), (1, .ref (ad 0 0)), (0, .ref b)]) : W p l e room_1 s m #[Value.ref b] below meth c H locs kc sl (lw_Z below #[Value.ref b] s) (F0 m 819 ls []) := by
  obtain ⟨hx, hb, hr, hml, hown, hts, hX, hbl, hlocks, hgv⟩ := id C0
  have hown : s.vm.findClass RL = some m.cls := hown
  have hb : c.code = cL_law := hb
  have hbA : ¬ (fun q : Nat => s.heap.size ≤ q) b := Nat.not_le.mpr hbl
  have hk1 : kc + 0 ≤ room_1.cells := by show kc + 0 ≤ 600000; omega
  have hs1 : sl + 0 ≤ room_1.slots := by show sl + 0 ≤ 7302250; omega
  have hI0 := hI
  refine lv_aload_n hx hb dL_law_819 rfl (lv_at hl 2 rfl) ?_
  refine lv_aload_n hx hb dL_law_820 rfl (lv_at hl 3 rfl) ?_
  refine lv_iload_n hx hb dL_law_821 rfl (lv_at hl 0 rfl) ?_
  refine lv_iconst (v := 1) hx hb dL_law_822 (by decide) ?_
  refine fx_iadd hx hb dL_law_823 rfl zk_1 (by omega) (fun y1 ey1 ty1 => ?_)
  refine va_sld hx hb hX hbl hbA hS (fm_in (by omega)) dL_law_824 ?_
  refine lv_topi (fun x2 ex2 => ?_)
  refine vp_callSi (va_Run.run (va_runV (As := [.int x2]) (rest := []) ⟨hx, hb, hml, hown, hts⟩ (fc_X11_isTrue l D ad C nb M hI x2) (cwV 1 hts gL_law_X11_isTrue rfl rfl rfl (by decide +kernel) ⟨Nat.le_of_ble_eq_true rfl, Nat.le_of_ble_eq_true rfl⟩) (fm_preV hc hw hS kl_0 sh_0 rfl) rfl rfl hl.1 rfl (lv_room (Nat.le_of_ble_eq_true rfl)) dL_law_825 ⟨hk1, hs1⟩)) (fun r3 hr3 => ?_)
  refine lv_pop hx hb dL_law_828 rfl ?_
  refine lv_aload_n hx hb dL_law_829 rfl (lv_at hl 1 rfl) ?_
  refine lv_aload_n hx hb dL_law_830 rfl (lv_at hl 3 rfl) ?_
  refine lv_iload_n hx hb dL_law_831 rfl (lv_at hl 0 rfl) ?_
  refine lv_iconst (v := 1) hx hb dL_law_832 (by decide) ?_
  refine fx_iadd hx hb dL_law_833 rfl zk_1 (by omega) (fun y4 ey4 ty4 => ?_)
  refine va_sld hx hb hX hbl hbA hS (fm_in (by omega)) dL_law_834 ?_
  refine lv_topi (fun x5 ex5 => ?_)
  have qx5 : x2 = x5 := by rw [ex5, ex2, ey4, ey1]
  clear ex5
  subst qx5
  refine vp_callSi (va_Run.run (va_runV (As := [.int x2]) (rest := []) ⟨hx, hb, hml, hown, hts⟩ (fc_X12_isTrue l D ad C nb M hI x2) (cwV 1 hts gL_law_X12_isTrue rfl rfl rfl (by decide +kernel) ⟨Nat.le_of_ble_eq_true rfl, Nat.le_of_ble_eq_true rfl⟩) (fm_preV hc hw hS kl_60 sh_60 rfl) rfl rfl hl.1 rfl (lv_room (Nat.le_of_ble_eq_true rfl)) dL_law_835 ⟨hk1, hs1⟩)) (fun r6 hr6 => ?_)
  refine lv_pop hx hb dL_law_838 rfl ?_
  refine lv_goto (tgt := 1834) hx hb dL_law_839 (by decide) ?_
  have hr90 : M.1 0 0 10 = M.1 60 0 16 := hrel.1
  have hr91 : (∀ j : Nat, j < nb → M.1 50 j 0 = M.1 110 0 j) := fun j hj => by exact hrel.2.1 j hj
  have hr92 : (∀ j : Nat, j < nb → M.1 50 j 3 = M.1 113 0 j) := fun j hj => by exact hrel.2.2 j hj
  have hrel9 : M.1 0 0 10 = M.1 60 0 16 ∧ (∀ j : Nat, j < nb → M.1 50 j 0 = M.1 110 0 j) ∧ (∀ j : Nat, j < nb → M.1 50 j 3 = M.1 113 0 j) := ⟨hr90, hr91, hr92⟩
  exact kk M _ _ hw hI hS hrel9 ls (lv_sub hl [0, 1, 2, 3] rfl)
set_option maxHeartbeats 1000000 in
set_option maxRecDepth 20000 in
theorem lb_14 {p : Program} {l : Launch} {e : Env} {s : State} {m : MethodId} {below : List Frame} {meth : Method} {c : Code} {D : va_G} {ad : Nat → Nat → Nat} {C : Nat → Nat → ClassId} {nb : Nat} {M : fm_M} {b L : Nat} {xs : Nat → Int32} {H : Heap} {locs : List Loc} {kc sl : Nat} {i : Int32} (C0 : lw_At p s m meth c b L xs) (hkc : kc ≤ 10000) (hsl : sl ≤ 300000) (hc : fm_Cx D ad C nb (fun q : Nat => s.heap.size ≤ q) s) (hw : fm_at D ad C nb M H) (hI : fm_I nb ad M) (hS : va_S (fun q : Nat => s.heap.size ≤ q) s.heap H locs) (hi : 0 ≤ i.toInt ∧ i.toInt + 6 ≤ L) (hL : L ≤ 3072) (hrel : M.1 0 0 10 = M.1 60 0 16 ∧ (∀ j : Nat, j < nb → M.1 50 j 0 = M.1 110 0 j) ∧ (∀ j : Nat, j < nb → M.1 50 j 3 = M.1 113 0 j)) (kk : ∀ (M1 : fm_M) (H1 : Heap) (locs1 : List Loc), fm_at D ad C nb M1 H1 → fm_I nb ad M1 → va_S (fun q : Nat => s.heap.size ≤ q) s.heap H1 locs1 → M1.1 0 0 10 = M1.1 60 0 16 ∧ (∀ j : Nat, j < nb → M1.1 50 j 0 = M1.1 110 0 j) ∧ (∀ j : Nat, j < nb → M1.1 50 j 3 = M1.1 113 0 j) → ∀ ls : Array Slot, lv_has ls 4 [(3, .int i), (2, .ref (ad 60 0)), (1, .ref (ad 0 0)), (0, .ref b)] → W p l e room_1 s m #[Value.ref b] below meth c H1 locs1 kc sl (lw_Z below #[Value.ref b] s) (F0 m 1834 ls [])) (ls : Array Slot) (hl : lv_has ls 4 [(3, .int i), (2, .ref (ad 60 0)), (1, .ref (ad 0 0)), (0, .ref b)]) : W p l e room_1 s m #[Value.ref b] below meth c H locs kc sl (lw_Z below #[Value.ref b] s) (F0 m 842 ls []) := by
  obtain ⟨hx, hb, hr, hml, hown, hts, hX, hbl, hlocks, hgv⟩ := id C0
  have hown : s.vm.findClass RL = some m.cls := hown
  have hb : c.code = cL_law := hb
  have hbA : ¬ (fun q : Nat => s.heap.size ≤ q) b := Nat.not_le.mpr hbl
  have hk1 : kc + 0 ≤ room_1.cells := by show kc + 0 ≤ 600000; omega
  have hs1 : sl + 0 ≤ room_1.slots := by show sl + 0 ≤ 7302250; omega
  have hI0 := hI
  refine lv_aload_n hx hb dL_law_842 rfl (lv_at hl 2 rfl) ?_
  refine lv_aload_n hx hb dL_law_843 rfl (lv_at hl 3 rfl) ?_
  refine lv_iload_n hx hb dL_law_844 rfl (lv_at hl 0 rfl) ?_
  refine lv_iconst (v := 1) hx hb dL_law_845 (by decide) ?_
  refine fx_iadd hx hb dL_law_846 rfl zk_1 (by omega) (fun y1 ey1 ty1 => ?_)
  refine va_sld hx hb hX hbl hbA hS (fm_in (by omega)) dL_law_847 ?_
  refine lv_topi (fun x2 ex2 => ?_)
  refine fx_i2l hx hb dL_law_848 rfl (fun y3 ey3 ty3 => ?_)
  refine lv_bipush (v := 32) hx hb dL_law_849 (by decide) ?_
  refine lv_lshl (v := y3 <<< ((32 : Int32).toInt64 &&& 63)) hx hb dL_law_851 rfl ?_
  refine lv_topl (fun y4 ey4 => ?_)
  refine lv_aload_n hx hb dL_law_852 rfl (lv_at hl 3 rfl) ?_
  refine lv_iload_n hx hb dL_law_853 rfl (lv_at hl 0 rfl) ?_
  refine lv_iconst (v := 2) hx hb dL_law_854 (by decide) ?_
  refine fx_iadd hx hb dL_law_855 rfl zk_2 (by omega) (fun y5 ey5 ty5 => ?_)
  refine va_sld hx hb hX hbl hbA hS (fm_in (by omega)) dL_law_856 ?_
  refine lv_topi (fun x6 ex6 => ?_)
  refine fx_i2l hx hb dL_law_857 rfl (fun y7 ey7 ty7 => ?_)
  refine lv_ldc2 (v := 4294967295) hx hb hown (hts (.constantLong RL 42 (4294967295)) (rt_pc_in 7 _ (List.mem_of_getElem? (i := 231) (by decide +kernel)))) dL_law_858 ?_
  refine lv_land hx hb dL_law_861 ?_
  refine lv_topl (fun y8 ey8 => ?_)
  refine lv_lor hx hb dL_law_862 ?_
  refine lv_topl (fun y9 ey9 => ?_)
  refine fm_ci (va_runV (As := [.long y9]) (rest := []) ⟨hx, hb, hml, hown, hts⟩ (fc_X11_lane l D ad C nb M hI y9) (cwV 1 hts gL_law_X11_lane rfl rfl rfl (by decide +kernel) ⟨Nat.le_of_ble_eq_true rfl, Nat.le_of_ble_eq_true rfl⟩) (fm_preV hc hw hS kl_0 sh_0 rfl) rfl rfl hl.1 rfl (lv_room (Nat.le_of_ble_eq_true rfl)) dL_law_863 ⟨hk1, hs1⟩) hS hc (fun r10 M11 H locs hr10 hw hS => ?_)
  obtain ⟨hI, hEM11, hr10⟩ := hr10
  refine lv_pop hx hb dL_law_866 rfl ?_
  refine lv_aload_n hx hb dL_law_867 rfl (lv_at hl 1 rfl) ?_
  refine lv_aload_n hx hb dL_law_868 rfl (lv_at hl 3 rfl) ?_
  refine lv_iload_n hx hb dL_law_869 rfl (lv_at hl 0 rfl) ?_
  refine lv_iconst (v := 1) hx hb dL_law_870 (by decide) ?_
  refine fx_iadd hx hb dL_law_871 rfl zk_1 (by omega) (fun y12 ey12 ty12 => ?_)
  refine va_sld hx hb hX hbl hbA hS (fm_in (by omega)) dL_law_872 ?_
  refine lv_topi (fun x13 ex13 => ?_)
  have qx13 : x2 = x13 := by rw [ex13, ex2, ey12, ey1]
  clear ex13
  subst qx13
  refine fx_i2l hx hb dL_law_873 rfl (fun y14 ey14 ty14 => ?_)
  refine lv_bipush (v := 32) hx hb dL_law_874 (by decide) ?_
  refine lv_lshl (v := y14 <<< ((32 : Int32).toInt64 &&& 63)) hx hb dL_law_876 rfl ?_
  refine lv_topl (fun y15 ey15 => ?_)
  refine lv_aload_n hx hb dL_law_877 rfl (lv_at hl 3 rfl) ?_
  refine lv_iload_n hx hb dL_law_878 rfl (lv_at hl 0 rfl) ?_
  refine lv_iconst (v := 2) hx hb dL_law_879 (by decide) ?_
  refine fx_iadd hx hb dL_law_880 rfl zk_2 (by omega) (fun y16 ey16 ty16 => ?_)
  refine va_sld hx hb hX hbl hbA hS (fm_in (by omega)) dL_law_881 ?_
  refine lv_topi (fun x17 ex17 => ?_)
  have qx17 : x6 = x17 := by rw [ex17, ex6, ey16, ey5]
  clear ex17
  subst qx17
  refine fx_i2l hx hb dL_law_882 rfl (fun y18 ey18 ty18 => ?_)
  refine lv_ldc2 (v := 4294967295) hx hb hown (hts (.constantLong RL 42 (4294967295)) (rt_pc_in 7 _ (List.mem_of_getElem? (i := 231) (by decide +kernel)))) dL_law_883 ?_
  refine lv_land hx hb dL_law_886 ?_
  refine lv_topl (fun y19 ey19 => ?_)
  refine lv_lor hx hb dL_law_887 ?_
  refine lv_topl (fun y20 ey20 => ?_)
  have qy20 : y9 = y20 := by rw [ey9, ey4, ey3, ey8, ey7, ey20, ey15, ey14, ey19, ey18]
  clear ey20
  subst qy20
  refine fm_ci (va_runV (As := [.long y9]) (rest := []) ⟨hx, hb, hml, hown, hts⟩ (fc_X12_lane l D ad C nb M11 hI y9) (cwV 1 hts gL_law_X12_lane rfl rfl rfl (by decide +kernel) ⟨Nat.le_of_ble_eq_true rfl, Nat.le_of_ble_eq_true rfl⟩) (fm_preV hc hw hS kl_60 sh_60 rfl) rfl rfl hl.1 rfl (lv_room (Nat.le_of_ble_eq_true rfl)) dL_law_888 ⟨hk1, hs1⟩) hS hc (fun r21 M22 H locs hr21 hw hS => ?_)
  obtain ⟨hI, hEM22, hr21⟩ := hr21
  refine lv_pop hx hb dL_law_891 rfl ?_
  refine lv_goto (tgt := 1834) hx hb dL_law_892 (by decide) ?_
  have hr90 : M22.1 0 0 10 = M22.1 60 0 16 := by rw [(hEM22 0 0 10 (by decide)).1, (hEM11 0 0 10 (by decide)).1, (hEM22 60 0 16 (by decide)).1, (hEM11 60 0 16 (by decide)).1]; exact hrel.1
  have hr91 : (∀ j : Nat, j < nb → M22.1 50 j 0 = M22.1 110 0 j) := fun j hj => by rw [(hEM22 50 j 0 (by decide)).1, (hEM11 50 j 0 (by decide)).1, (hEM22 110 0 j (by rw [cd_110]; decide)).1, (hEM11 110 0 j (by rw [cd_110]; decide)).1]; exact hrel.2.1 j hj
  have hr92 : (∀ j : Nat, j < nb → M22.1 50 j 3 = M22.1 113 0 j) := fun j hj => by rw [(hEM22 50 j 3 (by decide)).1, (hEM11 50 j 3 (by decide)).1, (hEM22 113 0 j (by rw [cd_113]; decide)).1, (hEM11 113 0 j (by rw [cd_113]; decide)).1]; exact hrel.2.2 j hj
  have hrel9 : M22.1 0 0 10 = M22.1 60 0 16 ∧ (∀ j : Nat, j < nb → M22.1 50 j 0 = M22.1 110 0 j) ∧ (∀ j : Nat, j < nb → M22.1 50 j 3 = M22.1 113 0 j) := ⟨hr90, hr91, hr92⟩
  exact kk M22 _ _ hw hI hS hrel9 ls (lv_sub hl [0, 1, 2, 3] rfl)
set_option maxHeartbeats 1000000 in
set_option maxRecDepth 20000 in
theorem lb_15 {p : Program} {l : Launch} {e : Env} {s : State} {m : MethodId} {below : List Frame} {meth : Method} {c : Code} {D : va_G} {ad : Nat → Nat → Nat} {C : Nat → Nat → ClassId} {nb : Nat} {M : fm_M} {b L : Nat} {xs : Nat → Int32} {H : Heap} {locs : List Loc} {kc sl : Nat} {i : Int32} (C0 : lw_At p s m meth c b L xs) (hkc : kc ≤ 10000) (hsl : sl ≤ 300000) (hc : fm_Cx D ad C nb (fun q : Nat => s.heap.size ≤ q) s) (hw : fm_at D ad C nb M H) (hI : fm_I nb ad M) (hS : va_S (fun q : Nat => s.heap.size ≤ q) s.heap H locs) (hi : 0 ≤ i.toInt ∧ i.toInt + 6 ≤ L) (hL : L ≤ 3072) (hrel : M.1 0 0 10 = M.1 60 0 16 ∧ (∀ j : Nat, j < nb → M.1 50 j 0 = M.1 110 0 j) ∧ (∀ j : Nat, j < nb → M.1 50 j 3 = M.1 113 0 j)) (kk : ∀ (M1 : fm_M) (H1 : Heap) (locs1 : List Loc), fm_at D ad C nb M1 H1 → fm_I nb ad M1 → va_S (fun q : Nat => s.heap.size ≤ q) s.heap H1 locs1 → M1.1 0 0 10 = M1.1 60 0 16 ∧ (∀ j : Nat, j < nb → M1.1 50 j 0 = M1.1 110 0 j) ∧ (∀ j : Nat, j < nb → M1.1 50 j 3 = M1.1 113 0 j) → ∀ ls : Array Slot, lv_has ls 4 [(3, .int i), (2, .ref (ad 60 0)), (1, .ref (ad 0 0)), (0, .ref b)] → W p l e room_1 s m #[Value.ref b] below meth c H1 locs1 kc sl (lw_Z below #[Value.ref b] s) (F0 m 1834 ls [])) (ls : Array Slot) (hl : lv_has ls 4 [(3, .int i), (2, .ref (ad 60 0)), (1, .ref (ad 0 0)), (0, .ref b)]) : W p l e room_1 s m #[Value.ref b] below meth c H locs kc sl (lw_Z below #[Value.ref b] s) (F0 m 895 ls []) := by
  obtain ⟨hx, hb, hr, hml, hown, hts, hX, hbl, hlocks, hgv⟩ := id C0
  have hown : s.vm.findClass RL = some m.cls := hown
  have hb : c.code = cL_law := hb
  have hbA : ¬ (fun q : Nat => s.heap.size ≤ q) b := Nat.not_le.mpr hbl
  have hk1 : kc + 0 ≤ room_1.cells := by show kc + 0 ≤ 600000; omega
  have hs1 : sl + 0 ≤ room_1.slots := by show sl + 0 ≤ 7302250; omega
  have hI0 := hI
  refine lv_aload_n hx hb dL_law_895 rfl (lv_at hl 2 rfl) ?_
  refine lv_aload_n hx hb dL_law_896 rfl (lv_at hl 3 rfl) ?_
  refine lv_iload_n hx hb dL_law_897 rfl (lv_at hl 0 rfl) ?_
  refine lv_iconst (v := 1) hx hb dL_law_898 (by decide) ?_
  refine fx_iadd hx hb dL_law_899 rfl zk_1 (by omega) (fun y1 ey1 ty1 => ?_)
  refine va_sld hx hb hX hbl hbA hS (fm_in (by omega)) dL_law_900 ?_
  refine lv_topi (fun x2 ex2 => ?_)
  refine lv_aload_n hx hb dL_law_901 rfl (lv_at hl 3 rfl) ?_
  refine lv_iload_n hx hb dL_law_902 rfl (lv_at hl 0 rfl) ?_
  refine lv_iconst (v := 2) hx hb dL_law_903 (by decide) ?_
  refine fx_iadd hx hb dL_law_904 rfl zk_2 (by omega) (fun y3 ey3 ty3 => ?_)
  refine va_sld hx hb hX hbl hbA hS (fm_in (by omega)) dL_law_905 ?_
  refine lv_topi (fun x4 ex4 => ?_)
  refine lv_aload_n hx hb dL_law_906 rfl (lv_at hl 3 rfl) ?_
  refine lv_iload_n hx hb dL_law_907 rfl (lv_at hl 0 rfl) ?_
  refine lv_iconst (v := 3) hx hb dL_law_908 (by decide) ?_
  refine fx_iadd hx hb dL_law_909 rfl zk_3 (by omega) (fun y5 ey5 ty5 => ?_)
  refine va_sld hx hb hX hbl hbA hS (fm_in (by omega)) dL_law_910 ?_
  refine lv_topi (fun x6 ex6 => ?_)
  refine fm_ci (va_runV (As := [.int x2, .int x4, .int x6]) (rest := []) ⟨hx, hb, hml, hown, hts⟩ (fc_X11_flown l D ad C nb M hI x2 x4 x6) (cwV 3 hts gL_law_X11_flown rfl rfl rfl (by decide +kernel) ⟨Nat.le_of_ble_eq_true rfl, Nat.le_of_ble_eq_true rfl⟩) (fm_preV hc hw hS kl_0 sh_0 rfl) rfl rfl hl.1 rfl (lv_room (Nat.le_of_ble_eq_true rfl)) dL_law_911 ⟨hk1, hs1⟩) hS hc (fun r7 M8 H locs hr7 hw hS => ?_)
  obtain ⟨hI, hEM8, hr7⟩ := hr7
  refine lv_pop hx hb dL_law_914 rfl ?_
  refine lv_aload_n hx hb dL_law_915 rfl (lv_at hl 1 rfl) ?_
  refine lv_aload_n hx hb dL_law_916 rfl (lv_at hl 3 rfl) ?_
  refine lv_iload_n hx hb dL_law_917 rfl (lv_at hl 0 rfl) ?_
  refine lv_iconst (v := 1) hx hb dL_law_918 (by decide) ?_
  refine fx_iadd hx hb dL_law_919 rfl zk_1 (by omega) (fun y9 ey9 ty9 => ?_)
  refine va_sld hx hb hX hbl hbA hS (fm_in (by omega)) dL_law_920 ?_
  refine lv_topi (fun x10 ex10 => ?_)
  have qx10 : x2 = x10 := by rw [ex10, ex2, ey9, ey1]
  clear ex10
  subst qx10
  refine lv_aload_n hx hb dL_law_921 rfl (lv_at hl 3 rfl) ?_
  refine lv_iload_n hx hb dL_law_922 rfl (lv_at hl 0 rfl) ?_
  refine lv_iconst (v := 2) hx hb dL_law_923 (by decide) ?_
  refine fx_iadd hx hb dL_law_924 rfl zk_2 (by omega) (fun y11 ey11 ty11 => ?_)
  refine va_sld hx hb hX hbl hbA hS (fm_in (by omega)) dL_law_925 ?_
  refine lv_topi (fun x12 ex12 => ?_)
  have qx12 : x4 = x12 := by rw [ex12, ex4, ey11, ey3]
  clear ex12
  subst qx12
  refine lv_aload_n hx hb dL_law_926 rfl (lv_at hl 3 rfl) ?_
  refine lv_iload_n hx hb dL_law_927 rfl (lv_at hl 0 rfl) ?_
  refine lv_iconst (v := 3) hx hb dL_law_928 (by decide) ?_
  refine fx_iadd hx hb dL_law_929 rfl zk_3 (by omega) (fun y13 ey13 ty13 => ?_)
  refine va_sld hx hb hX hbl hbA hS (fm_in (by omega)) dL_law_930 ?_
  refine lv_topi (fun x14 ex14 => ?_)
  have qx14 : x6 = x14 := by rw [ex14, ex6, ey13, ey5]
  clear ex14
  subst qx14
  refine fm_ci (va_runV (As := [.int x2, .int x4, .int x6]) (rest := []) ⟨hx, hb, hml, hown, hts⟩ (fc_X12_flown l D ad C nb M8 hI x2 x4 x6) (cwV 3 hts gL_law_X12_flown rfl rfl rfl (by decide +kernel) ⟨Nat.le_of_ble_eq_true rfl, Nat.le_of_ble_eq_true rfl⟩) (fm_preV hc hw hS kl_60 sh_60 rfl) rfl rfl hl.1 rfl (lv_room (Nat.le_of_ble_eq_true rfl)) dL_law_931 ⟨hk1, hs1⟩) hS hc (fun r15 M16 H locs hr15 hw hS => ?_)
  obtain ⟨hI, hEM16, hr15⟩ := hr15
  refine lv_pop hx hb dL_law_934 rfl ?_
  refine lv_goto (tgt := 1834) hx hb dL_law_935 (by decide) ?_
  have hr90 : M16.1 0 0 10 = M16.1 60 0 16 := by rw [(hEM16 0 0 10 (by decide)).1, (hEM8 0 0 10 (by decide)).1, (hEM16 60 0 16 (by decide)).1, (hEM8 60 0 16 (by decide)).1]; exact hrel.1
  have hr91 : (∀ j : Nat, j < nb → M16.1 50 j 0 = M16.1 110 0 j) := fun j hj => by rw [(hEM16 50 j 0 (by decide)).1, (hEM8 50 j 0 (by decide)).1, (hEM16 110 0 j (by rw [cd_110]; decide)).1, (hEM8 110 0 j (by rw [cd_110]; decide)).1]; exact hrel.2.1 j hj
  have hr92 : (∀ j : Nat, j < nb → M16.1 50 j 3 = M16.1 113 0 j) := fun j hj => by rw [(hEM16 50 j 3 (by decide)).1, (hEM8 50 j 3 (by decide)).1, (hEM16 113 0 j (by rw [cd_113]; decide)).1, (hEM8 113 0 j (by rw [cd_113]; decide)).1]; exact hrel.2.2 j hj
  have hrel9 : M16.1 0 0 10 = M16.1 60 0 16 ∧ (∀ j : Nat, j < nb → M16.1 50 j 0 = M16.1 110 0 j) ∧ (∀ j : Nat, j < nb → M16.1 50 j 3 = M16.1 113 0 j) := ⟨hr90, hr91, hr92⟩
  exact kk M16 _ _ hw hI hS hrel9 ls (lv_sub hl [0, 1, 2, 3] rfl)
set_option maxHeartbeats 1000000 in
set_option maxRecDepth 20000 in
theorem lb_16 {p : Program} {l : Launch} {e : Env} {s : State} {m : MethodId} {below : List Frame} {meth : Method} {c : Code} {D : va_G} {ad : Nat → Nat → Nat} {C : Nat → Nat → ClassId} {nb : Nat} {M : fm_M} {b L : Nat} {xs : Nat → Int32} {H : Heap} {locs : List Loc} {kc sl : Nat} {i : Int32} (C0 : lw_At p s m meth c b L xs) (hkc : kc ≤ 10000) (hsl : sl ≤ 300000) (hc : fm_Cx D ad C nb (fun q : Nat => s.heap.size ≤ q) s) (hw : fm_at D ad C nb M H) (hI : fm_I nb ad M) (hS : va_S (fun q : Nat => s.heap.size ≤ q) s.heap H locs) (hi : 0 ≤ i.toInt ∧ i.toInt + 6 ≤ L) (hL : L ≤ 3072) (hrel : M.1 0 0 10 = M.1 60 0 16 ∧ (∀ j : Nat, j < nb → M.1 50 j 0 = M.1 110 0 j) ∧ (∀ j : Nat, j < nb → M.1 50 j 3 = M.1 113 0 j)) (kk : ∀ (M1 : fm_M) (H1 : Heap) (locs1 : List Loc), fm_at D ad C nb M1 H1 → fm_I nb ad M1 → va_S (fun q : Nat => s.heap.size ≤ q) s.heap H1 locs1 → M1.1 0 0 10 = M1.1 60 0 16 ∧ (∀ j : Nat, j < nb → M1.1 50 j 0 = M1.1 110 0 j) ∧ (∀ j : Nat, j < nb → M1.1 50 j 3 = M1.1 113 0 j) → ∀ ls : Array Slot, lv_has ls 4 [(3, .int i), (2, .ref (ad 60 0)), (1, .ref (ad 0 0)), (0, .ref b)] → W p l e room_1 s m #[Value.ref b] below meth c H1 locs1 kc sl (lw_Z below #[Value.ref b] s) (F0 m 1834 ls [])) (ls : Array Slot) (hl : lv_has ls 4 [(3, .int i), (2, .ref (ad 60 0)), (1, .ref (ad 0 0)), (0, .ref b)]) : W p l e room_1 s m #[Value.ref b] below meth c H locs kc sl (lw_Z below #[Value.ref b] s) (F0 m 938 ls []) := by
  obtain ⟨hx, hb, hr, hml, hown, hts, hX, hbl, hlocks, hgv⟩ := id C0
  have hown : s.vm.findClass RL = some m.cls := hown
  have hb : c.code = cL_law := hb
  have hbA : ¬ (fun q : Nat => s.heap.size ≤ q) b := Nat.not_le.mpr hbl
  have hk1 : kc + 0 ≤ room_1.cells := by show kc + 0 ≤ 600000; omega
  have hs1 : sl + 0 ≤ room_1.slots := by show sl + 0 ≤ 7302250; omega
  have hI0 := hI
  refine lv_aload_n hx hb dL_law_938 rfl (lv_at hl 2 rfl) ?_
  refine lv_aload_n hx hb dL_law_939 rfl (lv_at hl 3 rfl) ?_
  refine lv_iload_n hx hb dL_law_940 rfl (lv_at hl 0 rfl) ?_
  refine lv_iconst (v := 1) hx hb dL_law_941 (by decide) ?_
  refine fx_iadd hx hb dL_law_942 rfl zk_1 (by omega) (fun y1 ey1 ty1 => ?_)
  refine va_sld hx hb hX hbl hbA hS (fm_in (by omega)) dL_law_943 ?_
  refine lv_topi (fun x2 ex2 => ?_)
  refine lv_aload_n hx hb dL_law_944 rfl (lv_at hl 3 rfl) ?_
  refine lv_iload_n hx hb dL_law_945 rfl (lv_at hl 0 rfl) ?_
  refine lv_iconst (v := 2) hx hb dL_law_946 (by decide) ?_
  refine fx_iadd hx hb dL_law_947 rfl zk_2 (by omega) (fun y3 ey3 ty3 => ?_)
  refine va_sld hx hb hX hbl hbA hS (fm_in (by omega)) dL_law_948 ?_
  refine lv_topi (fun x4 ex4 => ?_)
  refine lv_aload_n hx hb dL_law_949 rfl (lv_at hl 3 rfl) ?_
  refine lv_iload_n hx hb dL_law_950 rfl (lv_at hl 0 rfl) ?_
  refine lv_iconst (v := 3) hx hb dL_law_951 (by decide) ?_
  refine fx_iadd hx hb dL_law_952 rfl zk_3 (by omega) (fun y5 ey5 ty5 => ?_)
  refine va_sld hx hb hX hbl hbA hS (fm_in (by omega)) dL_law_953 ?_
  refine lv_topi (fun x6 ex6 => ?_)
  refine fm_cl (va_runV (As := [.int x2, .int x4, .int x6]) (rest := []) ⟨hx, hb, hml, hown, hts⟩ (fc_X11_share l D ad C nb M hI x2 x4 x6) (cwV 3 hts gL_law_X11_share rfl rfl rfl (by decide +kernel) ⟨Nat.le_of_ble_eq_true rfl, Nat.le_of_ble_eq_true rfl⟩) (fm_preV hc hw hS kl_0 sh_0 rfl) rfl rfl hl.1 rfl (lv_room (Nat.le_of_ble_eq_true rfl)) dL_law_954 ⟨hk1, hs1⟩) hS hc (fun r7 M8 H locs hr7 hw hS => ?_)
  obtain ⟨hI, hEM8, hr7⟩ := hr7
  refine lv_pop2_2 hx hb dL_law_957 rfl ?_
  refine lv_aload_n hx hb dL_law_958 rfl (lv_at hl 1 rfl) ?_
  refine lv_aload_n hx hb dL_law_959 rfl (lv_at hl 3 rfl) ?_
  refine lv_iload_n hx hb dL_law_960 rfl (lv_at hl 0 rfl) ?_
  refine lv_iconst (v := 1) hx hb dL_law_961 (by decide) ?_
  refine fx_iadd hx hb dL_law_962 rfl zk_1 (by omega) (fun y9 ey9 ty9 => ?_)
  refine va_sld hx hb hX hbl hbA hS (fm_in (by omega)) dL_law_963 ?_
  refine lv_topi (fun x10 ex10 => ?_)
  have qx10 : x2 = x10 := by rw [ex10, ex2, ey9, ey1]
  clear ex10
  subst qx10
  refine lv_aload_n hx hb dL_law_964 rfl (lv_at hl 3 rfl) ?_
  refine lv_iload_n hx hb dL_law_965 rfl (lv_at hl 0 rfl) ?_
  refine lv_iconst (v := 2) hx hb dL_law_966 (by decide) ?_
  refine fx_iadd hx hb dL_law_967 rfl zk_2 (by omega) (fun y11 ey11 ty11 => ?_)
  refine va_sld hx hb hX hbl hbA hS (fm_in (by omega)) dL_law_968 ?_
  refine lv_topi (fun x12 ex12 => ?_)
  have qx12 : x4 = x12 := by rw [ex12, ex4, ey11, ey3]
  clear ex12
  subst qx12
  refine lv_aload_n hx hb dL_law_969 rfl (lv_at hl 3 rfl) ?_
  refine lv_iload_n hx hb dL_law_970 rfl (lv_at hl 0 rfl) ?_
  refine lv_iconst (v := 3) hx hb dL_law_971 (by decide) ?_
  refine fx_iadd hx hb dL_law_972 rfl zk_3 (by omega) (fun y13 ey13 ty13 => ?_)
  refine va_sld hx hb hX hbl hbA hS (fm_in (by omega)) dL_law_973 ?_
  refine lv_topi (fun x14 ex14 => ?_)
  have qx14 : x6 = x14 := by rw [ex14, ex6, ey13, ey5]
  clear ex14
  subst qx14
  refine fm_cl (va_runV (As := [.int x2, .int x4, .int x6]) (rest := []) ⟨hx, hb, hml, hown, hts⟩ (fc_X12_share l D ad C nb M8 hI x2 x4 x6) (cwV 3 hts gL_law_X12_share rfl rfl rfl (by decide +kernel) ⟨Nat.le_of_ble_eq_true rfl, Nat.le_of_ble_eq_true rfl⟩) (fm_preV hc hw hS kl_60 sh_60 rfl) rfl rfl hl.1 rfl (lv_room (Nat.le_of_ble_eq_true rfl)) dL_law_974 ⟨hk1, hs1⟩) hS hc (fun r15 M16 H locs hr15 hw hS => ?_)
  obtain ⟨hI, hEM16, hr15⟩ := hr15
  refine lv_pop2_2 hx hb dL_law_977 rfl ?_
  refine lv_goto (tgt := 1834) hx hb dL_law_978 (by decide) ?_
  have hr90 : M16.1 0 0 10 = M16.1 60 0 16 := by rw [(hEM16 0 0 10 (by decide)).1, (hEM8 0 0 10 (by decide)).1, (hEM16 60 0 16 (by decide)).1, (hEM8 60 0 16 (by decide)).1]; exact hrel.1
  have hr91 : (∀ j : Nat, j < nb → M16.1 50 j 0 = M16.1 110 0 j) := fun j hj => by rw [(hEM16 50 j 0 (by decide)).1, (hEM8 50 j 0 (by decide)).1, (hEM16 110 0 j (by rw [cd_110]; decide)).1, (hEM8 110 0 j (by rw [cd_110]; decide)).1]; exact hrel.2.1 j hj
  have hr92 : (∀ j : Nat, j < nb → M16.1 50 j 3 = M16.1 113 0 j) := fun j hj => by rw [(hEM16 50 j 3 (by decide)).1, (hEM8 50 j 3 (by decide)).1, (hEM16 113 0 j (by rw [cd_113]; decide)).1, (hEM8 113 0 j (by rw [cd_113]; decide)).1]; exact hrel.2.2 j hj
  have hrel9 : M16.1 0 0 10 = M16.1 60 0 16 ∧ (∀ j : Nat, j < nb → M16.1 50 j 0 = M16.1 110 0 j) ∧ (∀ j : Nat, j < nb → M16.1 50 j 3 = M16.1 113 0 j) := ⟨hr90, hr91, hr92⟩
  exact kk M16 _ _ hw hI hS hrel9 ls (lv_sub hl [0, 1, 2, 3] rfl)
set_option maxHeartbeats 1000000 in
set_option maxRecDepth 20000 in
theorem lb_17 {p : Program} {l : Launch} {e : Env} {s : State} {m : MethodId} {below : List Frame} {meth : Method} {c : Code} {D : va_G} {ad : Nat → Nat → Nat} {C : Nat → Nat → ClassId} {nb : Nat} {M : fm_M} {b L : Nat} {xs : Nat → Int32} {H : Heap} {locs : List Loc} {kc sl : Nat} {i : Int32} (C0 : lw_At p s m meth c b L xs) (hkc : kc ≤ 10000) (hsl : sl ≤ 300000) (hc : fm_Cx D ad C nb (fun q : Nat => s.heap.size ≤ q) s) (hw : fm_at D ad C nb M H) (hI : fm_I nb ad M) (hS : va_S (fun q : Nat => s.heap.size ≤ q) s.heap H locs) (hi : 0 ≤ i.toInt ∧ i.toInt + 6 ≤ L) (hL : L ≤ 3072) (hrel : M.1 0 0 10 = M.1 60 0 16 ∧ (∀ j : Nat, j < nb → M.1 50 j 0 = M.1 110 0 j) ∧ (∀ j : Nat, j < nb → M.1 50 j 3 = M.1 113 0 j)) (kk : ∀ (M1 : fm_M) (H1 : Heap) (locs1 : List Loc), fm_at D ad C nb M1 H1 → fm_I nb ad M1 → va_S (fun q : Nat => s.heap.size ≤ q) s.heap H1 locs1 → M1.1 0 0 10 = M1.1 60 0 16 ∧ (∀ j : Nat, j < nb → M1.1 50 j 0 = M1.1 110 0 j) ∧ (∀ j : Nat, j < nb → M1.1 50 j 3 = M1.1 113 0 j) → ∀ ls : Array Slot, lv_has ls 4 [(3, .int i), (2, .ref (ad 60 0)), (1, .ref (ad 0 0)), (0, .ref b)] → W p l e room_1 s m #[Value.ref b] below meth c H1 locs1 kc sl (lw_Z below #[Value.ref b] s) (F0 m 1834 ls [])) (ls : Array Slot) (hl : lv_has ls 4 [(3, .int i), (2, .ref (ad 60 0)), (1, .ref (ad 0 0)), (0, .ref b)]) : W p l e room_1 s m #[Value.ref b] below meth c H locs kc sl (lw_Z below #[Value.ref b] s) (F0 m 981 ls []) := by
  obtain ⟨hx, hb, hr, hml, hown, hts, hX, hbl, hlocks, hgv⟩ := id C0
  have hown : s.vm.findClass RL = some m.cls := hown
  have hb : c.code = cL_law := hb
  have hbA : ¬ (fun q : Nat => s.heap.size ≤ q) b := Nat.not_le.mpr hbl
  have hk1 : kc + 0 ≤ room_1.cells := by show kc + 0 ≤ 600000; omega
  have hs1 : sl + 0 ≤ room_1.slots := by show sl + 0 ≤ 7302250; omega
  have hI0 := hI
  refine lv_aload_n hx hb dL_law_981 rfl (lv_at hl 2 rfl) ?_
  refine lv_aload_n hx hb dL_law_982 rfl (lv_at hl 3 rfl) ?_
  refine lv_iload_n hx hb dL_law_983 rfl (lv_at hl 0 rfl) ?_
  refine lv_iconst (v := 1) hx hb dL_law_984 (by decide) ?_
  refine fx_iadd hx hb dL_law_985 rfl zk_1 (by omega) (fun y1 ey1 ty1 => ?_)
  refine va_sld hx hb hX hbl hbA hS (fm_in (by omega)) dL_law_986 ?_
  refine lv_topi (fun x2 ex2 => ?_)
  refine lv_aload_n hx hb dL_law_987 rfl (lv_at hl 3 rfl) ?_
  refine lv_iload_n hx hb dL_law_988 rfl (lv_at hl 0 rfl) ?_
  refine lv_iconst (v := 2) hx hb dL_law_989 (by decide) ?_
  refine fx_iadd hx hb dL_law_990 rfl zk_2 (by omega) (fun y3 ey3 ty3 => ?_)
  refine va_sld hx hb hX hbl hbA hS (fm_in (by omega)) dL_law_991 ?_
  refine lv_topi (fun x4 ex4 => ?_)
  refine lv_aload_n hx hb dL_law_992 rfl (lv_at hl 3 rfl) ?_
  refine lv_iload_n hx hb dL_law_993 rfl (lv_at hl 0 rfl) ?_
  refine lv_iconst (v := 3) hx hb dL_law_994 (by decide) ?_
  refine fx_iadd hx hb dL_law_995 rfl zk_3 (by omega) (fun y5 ey5 ty5 => ?_)
  refine va_sld hx hb hX hbl hbA hS (fm_in (by omega)) dL_law_996 ?_
  refine lv_topi (fun x6 ex6 => ?_)
  refine lv_aload_n hx hb dL_law_997 rfl (lv_at hl 3 rfl) ?_
  refine lv_iload_n hx hb dL_law_998 rfl (lv_at hl 0 rfl) ?_
  refine lv_iconst (v := 4) hx hb dL_law_999 (by decide) ?_
  refine fx_iadd hx hb dL_law_1000 rfl zk_4 (by omega) (fun y7 ey7 ty7 => ?_)
  refine va_sld hx hb hX hbl hbA hS (fm_in (by omega)) dL_law_1001 ?_
  refine lv_topi (fun x8 ex8 => ?_)
  refine fm_ci (va_runV (As := [.int x2, .int x4, .int x6, .int x8]) (rest := []) ⟨hx, hb, hml, hown, hts⟩ (fc_X11_parted l D ad C nb M hI x2 x4 x6 x8) (cwV 4 hts gL_law_X11_parted rfl rfl rfl (by decide +kernel) ⟨Nat.le_of_ble_eq_true rfl, Nat.le_of_ble_eq_true rfl⟩) (fm_preV hc hw hS kl_0 sh_0 rfl) rfl rfl hl.1 rfl (lv_room (Nat.le_of_ble_eq_true rfl)) dL_law_1002 ⟨hk1, hs1⟩) hS hc (fun r9 M10 H locs hr9 hw hS => ?_)
  obtain ⟨hI, hEM10, hr9⟩ := hr9
  refine lv_pop hx hb dL_law_1005 rfl ?_
  refine lv_aload_n hx hb dL_law_1006 rfl (lv_at hl 1 rfl) ?_
  refine lv_aload_n hx hb dL_law_1007 rfl (lv_at hl 3 rfl) ?_
  refine lv_iload_n hx hb dL_law_1008 rfl (lv_at hl 0 rfl) ?_
  refine lv_iconst (v := 1) hx hb dL_law_1009 (by decide) ?_
  refine fx_iadd hx hb dL_law_1010 rfl zk_1 (by omega) (fun y11 ey11 ty11 => ?_)
  refine va_sld hx hb hX hbl hbA hS (fm_in (by omega)) dL_law_1011 ?_
  refine lv_topi (fun x12 ex12 => ?_)
  have qx12 : x2 = x12 := by rw [ex12, ex2, ey11, ey1]
  clear ex12
  subst qx12
  refine lv_aload_n hx hb dL_law_1012 rfl (lv_at hl 3 rfl) ?_
  refine lv_iload_n hx hb dL_law_1013 rfl (lv_at hl 0 rfl) ?_
  refine lv_iconst (v := 2) hx hb dL_law_1014 (by decide) ?_
  refine fx_iadd hx hb dL_law_1015 rfl zk_2 (by omega) (fun y13 ey13 ty13 => ?_)
  refine va_sld hx hb hX hbl hbA hS (fm_in (by omega)) dL_law_1016 ?_
  refine lv_topi (fun x14 ex14 => ?_)
  have qx14 : x4 = x14 := by rw [ex14, ex4, ey13, ey3]
  clear ex14
  subst qx14
  refine lv_aload_n hx hb dL_law_1017 rfl (lv_at hl 3 rfl) ?_
  refine lv_iload_n hx hb dL_law_1018 rfl (lv_at hl 0 rfl) ?_
  refine lv_iconst (v := 3) hx hb dL_law_1019 (by decide) ?_
  refine fx_iadd hx hb dL_law_1020 rfl zk_3 (by omega) (fun y15 ey15 ty15 => ?_)
  refine va_sld hx hb hX hbl hbA hS (fm_in (by omega)) dL_law_1021 ?_
  refine lv_topi (fun x16 ex16 => ?_)
  have qx16 : x6 = x16 := by rw [ex16, ex6, ey15, ey5]
  clear ex16
  subst qx16
  refine lv_aload_n hx hb dL_law_1022 rfl (lv_at hl 3 rfl) ?_
  refine lv_iload_n hx hb dL_law_1023 rfl (lv_at hl 0 rfl) ?_
  refine lv_iconst (v := 4) hx hb dL_law_1024 (by decide) ?_
  refine fx_iadd hx hb dL_law_1025 rfl zk_4 (by omega) (fun y17 ey17 ty17 => ?_)
  refine va_sld hx hb hX hbl hbA hS (fm_in (by omega)) dL_law_1026 ?_
  refine lv_topi (fun x18 ex18 => ?_)
  have qx18 : x8 = x18 := by rw [ex18, ex8, ey17, ey7]
  clear ex18
  subst qx18
  refine fm_ci (va_runV (As := [.int x2, .int x4, .int x6, .int x8]) (rest := []) ⟨hx, hb, hml, hown, hts⟩ (fc_X12_parted l D ad C nb M10 hI x2 x4 x6 x8) (cwV 4 hts gL_law_X12_parted rfl rfl rfl (by decide +kernel) ⟨Nat.le_of_ble_eq_true rfl, Nat.le_of_ble_eq_true rfl⟩) (fm_preV hc hw hS kl_60 sh_60 rfl) rfl rfl hl.1 rfl (lv_room (Nat.le_of_ble_eq_true rfl)) dL_law_1027 ⟨hk1, hs1⟩) hS hc (fun r19 M20 H locs hr19 hw hS => ?_)
  obtain ⟨hI, hEM20, hr19⟩ := hr19
  refine lv_pop hx hb dL_law_1030 rfl ?_
  refine lv_goto (tgt := 1834) hx hb dL_law_1031 (by decide) ?_
  have hr90 : M20.1 0 0 10 = M20.1 60 0 16 := by rw [(hEM20 0 0 10 (by decide)).1, (hEM10 0 0 10 (by decide)).1, (hEM20 60 0 16 (by decide)).1, (hEM10 60 0 16 (by decide)).1]; exact hrel.1
  have hr91 : (∀ j : Nat, j < nb → M20.1 50 j 0 = M20.1 110 0 j) := fun j hj => by rw [(hEM20 50 j 0 (by decide)).1, (hEM10 50 j 0 (by decide)).1, (hEM20 110 0 j (by rw [cd_110]; decide)).1, (hEM10 110 0 j (by rw [cd_110]; decide)).1]; exact hrel.2.1 j hj
  have hr92 : (∀ j : Nat, j < nb → M20.1 50 j 3 = M20.1 113 0 j) := fun j hj => by rw [(hEM20 50 j 3 (by decide)).1, (hEM10 50 j 3 (by decide)).1, (hEM20 113 0 j (by rw [cd_113]; decide)).1, (hEM10 113 0 j (by rw [cd_113]; decide)).1]; exact hrel.2.2 j hj
  have hrel9 : M20.1 0 0 10 = M20.1 60 0 16 ∧ (∀ j : Nat, j < nb → M20.1 50 j 0 = M20.1 110 0 j) ∧ (∀ j : Nat, j < nb → M20.1 50 j 3 = M20.1 113 0 j) := ⟨hr90, hr91, hr92⟩
  exact kk M20 _ _ hw hI hS hrel9 ls (lv_sub hl [0, 1, 2, 3] rfl)
set_option maxHeartbeats 1000000 in
set_option maxRecDepth 20000 in
theorem lb_18 {p : Program} {l : Launch} {e : Env} {s : State} {m : MethodId} {below : List Frame} {meth : Method} {c : Code} {D : va_G} {ad : Nat → Nat → Nat} {C : Nat → Nat → ClassId} {nb : Nat} {M : fm_M} {b L : Nat} {xs : Nat → Int32} {H : Heap} {locs : List Loc} {kc sl : Nat} {i : Int32} (C0 : lw_At p s m meth c b L xs) (hkc : kc ≤ 10000) (hsl : sl ≤ 300000) (hc : fm_Cx D ad C nb (fun q : Nat => s.heap.size ≤ q) s) (hw : fm_at D ad C nb M H) (hI : fm_I nb ad M) (hS : va_S (fun q : Nat => s.heap.size ≤ q) s.heap H locs) (hi : 0 ≤ i.toInt ∧ i.toInt + 6 ≤ L) (hL : L ≤ 3072) (hrel : M.1 0 0 10 = M.1 60 0 16 ∧ (∀ j : Nat, j < nb → M.1 50 j 0 = M.1 110 0 j) ∧ (∀ j : Nat, j < nb → M.1 50 j 3 = M.1 113 0 j)) (kk : ∀ (M1 : fm_M) (H1 : Heap) (locs1 : List Loc), fm_at D ad C nb M1 H1 → fm_I nb ad M1 → va_S (fun q : Nat => s.heap.size ≤ q) s.heap H1 locs1 → M1.1 0 0 10 = M1.1 60 0 16 ∧ (∀ j : Nat, j < nb → M1.1 50 j 0 = M1.1 110 0 j) ∧ (∀ j : Nat, j < nb → M1.1 50 j 3 = M1.1 113 0 j) → ∀ ls : Array Slot, lv_has ls 4 [(3, .int i), (2, .ref (ad 60 0)), (1, .ref (ad 0 0)), (0, .ref b)] → W p l e room_1 s m #[Value.ref b] below meth c H1 locs1 kc sl (lw_Z below #[Value.ref b] s) (F0 m 1834 ls [])) (ls : Array Slot) (hl : lv_has ls 4 [(3, .int i), (2, .ref (ad 60 0)), (1, .ref (ad 0 0)), (0, .ref b)]) : W p l e room_1 s m #[Value.ref b] below meth c H locs kc sl (lw_Z below #[Value.ref b] s) (F0 m 1034 ls []) := by
  obtain ⟨hx, hb, hr, hml, hown, hts, hX, hbl, hlocks, hgv⟩ := id C0
  have hown : s.vm.findClass RL = some m.cls := hown
  have hb : c.code = cL_law := hb
  have hbA : ¬ (fun q : Nat => s.heap.size ≤ q) b := Nat.not_le.mpr hbl
  have hk1 : kc + 0 ≤ room_1.cells := by show kc + 0 ≤ 600000; omega
  have hs1 : sl + 0 ≤ room_1.slots := by show sl + 0 ≤ 7302250; omega
  have hI0 := hI
  refine lv_aload_n hx hb dL_law_1034 rfl (lv_at hl 2 rfl) ?_
  refine lv_aload_n hx hb dL_law_1035 rfl (lv_at hl 3 rfl) ?_
  refine lv_iload_n hx hb dL_law_1036 rfl (lv_at hl 0 rfl) ?_
  refine lv_iconst (v := 1) hx hb dL_law_1037 (by decide) ?_
  refine fx_iadd hx hb dL_law_1038 rfl zk_1 (by omega) (fun y1 ey1 ty1 => ?_)
  refine va_sld hx hb hX hbl hbA hS (fm_in (by omega)) dL_law_1039 ?_
  refine lv_topi (fun x2 ex2 => ?_)
  refine fm_ci (va_runV (As := [.int x2]) (rest := []) ⟨hx, hb, hml, hown, hts⟩ (fc_X11_stays l D ad C nb M hI x2) (cwV 1 hts gL_law_X11_stays rfl rfl rfl (by decide +kernel) ⟨Nat.le_of_ble_eq_true rfl, Nat.le_of_ble_eq_true rfl⟩) (fm_preV hc hw hS kl_0 sh_0 rfl) rfl rfl hl.1 rfl (lv_room (Nat.le_of_ble_eq_true rfl)) dL_law_1040 ⟨hk1, hs1⟩) hS hc (fun r3 M4 H locs hr3 hw hS => ?_)
  obtain ⟨hI, hEM4, hr3⟩ := hr3
  refine lv_pop hx hb dL_law_1043 rfl ?_
  refine lv_aload_n hx hb dL_law_1044 rfl (lv_at hl 1 rfl) ?_
  refine lv_aload_n hx hb dL_law_1045 rfl (lv_at hl 3 rfl) ?_
  refine lv_iload_n hx hb dL_law_1046 rfl (lv_at hl 0 rfl) ?_
  refine lv_iconst (v := 1) hx hb dL_law_1047 (by decide) ?_
  refine fx_iadd hx hb dL_law_1048 rfl zk_1 (by omega) (fun y5 ey5 ty5 => ?_)
  refine va_sld hx hb hX hbl hbA hS (fm_in (by omega)) dL_law_1049 ?_
  refine lv_topi (fun x6 ex6 => ?_)
  have qx6 : x2 = x6 := by rw [ex6, ex2, ey5, ey1]
  clear ex6
  subst qx6
  refine fm_ci (va_runV (As := [.int x2]) (rest := []) ⟨hx, hb, hml, hown, hts⟩ (fc_X12_stays l D ad C nb M4 hI x2) (cwV 1 hts gL_law_X12_stays rfl rfl rfl (by decide +kernel) ⟨Nat.le_of_ble_eq_true rfl, Nat.le_of_ble_eq_true rfl⟩) (fm_preV hc hw hS kl_60 sh_60 rfl) rfl rfl hl.1 rfl (lv_room (Nat.le_of_ble_eq_true rfl)) dL_law_1050 ⟨hk1, hs1⟩) hS hc (fun r7 M8 H locs hr7 hw hS => ?_)
  obtain ⟨hI, hEM8, hr7⟩ := hr7
  refine lv_pop hx hb dL_law_1053 rfl ?_
  refine lv_goto (tgt := 1834) hx hb dL_law_1054 (by decide) ?_
  have hr90 : M8.1 0 0 10 = M8.1 60 0 16 := by rw [(hEM8 0 0 10 (by decide)).1, (hEM4 0 0 10 (by decide)).1, (hEM8 60 0 16 (by decide)).1, (hEM4 60 0 16 (by decide)).1]; exact hrel.1
  have hr91 : (∀ j : Nat, j < nb → M8.1 50 j 0 = M8.1 110 0 j) := fun j hj => by rw [(hEM8 50 j 0 (by decide)).1, (hEM4 50 j 0 (by decide)).1, (hEM8 110 0 j (by rw [cd_110]; decide)).1, (hEM4 110 0 j (by rw [cd_110]; decide)).1]; exact hrel.2.1 j hj
  have hr92 : (∀ j : Nat, j < nb → M8.1 50 j 3 = M8.1 113 0 j) := fun j hj => by rw [(hEM8 50 j 3 (by decide)).1, (hEM4 50 j 3 (by decide)).1, (hEM8 113 0 j (by rw [cd_113]; decide)).1, (hEM4 113 0 j (by rw [cd_113]; decide)).1]; exact hrel.2.2 j hj
  have hrel9 : M8.1 0 0 10 = M8.1 60 0 16 ∧ (∀ j : Nat, j < nb → M8.1 50 j 0 = M8.1 110 0 j) ∧ (∀ j : Nat, j < nb → M8.1 50 j 3 = M8.1 113 0 j) := ⟨hr90, hr91, hr92⟩
  exact kk M8 _ _ hw hI hS hrel9 ls (lv_sub hl [0, 1, 2, 3] rfl)
set_option maxHeartbeats 1000000 in
set_option maxRecDepth 20000 in
theorem lb_19 {p : Program} {l : Launch} {e : Env} {s : State} {m : MethodId} {below : List Frame} {meth : Method} {c : Code} {D : va_G} {ad : Nat → Nat → Nat} {C : Nat → Nat → ClassId} {nb : Nat} {M : fm_M} {b L : Nat} {xs : Nat → Int32} {H : Heap} {locs : List Loc} {kc sl : Nat} {i : Int32} (C0 : lw_At p s m meth c b L xs) (hkc : kc ≤ 10000) (hsl : sl ≤ 300000) (hc : fm_Cx D ad C nb (fun q : Nat => s.heap.size ≤ q) s) (hw : fm_at D ad C nb M H) (hI : fm_I nb ad M) (hS : va_S (fun q : Nat => s.heap.size ≤ q) s.heap H locs) (hi : 0 ≤ i.toInt ∧ i.toInt + 6 ≤ L) (hL : L ≤ 3072) (hrel : M.1 0 0 10 = M.1 60 0 16 ∧ (∀ j : Nat, j < nb → M.1 50 j 0 = M.1 110 0 j) ∧ (∀ j : Nat, j < nb → M.1 50 j 3 = M.1 113 0 j)) (kk : ∀ (M1 : fm_M) (H1 : Heap) (locs1 : List Loc), fm_at D ad C nb M1 H1 → fm_I nb ad M1 → va_S (fun q : Nat => s.heap.size ≤ q) s.heap H1 locs1 → M1.1 0 0 10 = M1.1 60 0 16 ∧ (∀ j : Nat, j < nb → M1.1 50 j 0 = M1.1 110 0 j) ∧ (∀ j : Nat, j < nb → M1.1 50 j 3 = M1.1 113 0 j) → ∀ ls : Array Slot, lv_has ls 4 [(3, .int i), (2, .ref (ad 60 0)), (1, .ref (ad 0 0)), (0, .ref b)] → W p l e room_1 s m #[Value.ref b] below meth c H1 locs1 kc sl (lw_Z below #[Value.ref b] s) (F0 m 1834 ls [])) (ls : Array Slot) (hl : lv_has ls 4 [(3, .int i), (2, .ref (ad 60 0)), (1, .ref (ad 0 0)), (0, .ref b)]) : W p l e room_1 s m #[Value.ref b] below meth c H locs kc sl (lw_Z below #[Value.ref b] s) (F0 m 1057 ls []) := by
  obtain ⟨hx, hb, hr, hml, hown, hts, hX, hbl, hlocks, hgv⟩ := id C0
  have hown : s.vm.findClass RL = some m.cls := hown
  have hb : c.code = cL_law := hb
  have hbA : ¬ (fun q : Nat => s.heap.size ≤ q) b := Nat.not_le.mpr hbl
  have hk1 : kc + 0 ≤ room_1.cells := by show kc + 0 ≤ 600000; omega
  have hs1 : sl + 0 ≤ room_1.slots := by show sl + 0 ≤ 7302250; omega
  have hI0 := hI
  refine lv_aload_n hx hb dL_law_1057 rfl (lv_at hl 2 rfl) ?_
  refine lv_aload_n hx hb dL_law_1058 rfl (lv_at hl 3 rfl) ?_
  refine lv_iload_n hx hb dL_law_1059 rfl (lv_at hl 0 rfl) ?_
  refine lv_iconst (v := 1) hx hb dL_law_1060 (by decide) ?_
  refine fx_iadd hx hb dL_law_1061 rfl zk_1 (by omega) (fun y1 ey1 ty1 => ?_)
  refine va_sld hx hb hX hbl hbA hS (fm_in (by omega)) dL_law_1062 ?_
  refine lv_topi (fun x2 ex2 => ?_)
  refine lv_aload_n hx hb dL_law_1063 rfl (lv_at hl 3 rfl) ?_
  refine lv_iload_n hx hb dL_law_1064 rfl (lv_at hl 0 rfl) ?_
  refine lv_iconst (v := 2) hx hb dL_law_1065 (by decide) ?_
  refine fx_iadd hx hb dL_law_1066 rfl zk_2 (by omega) (fun y3 ey3 ty3 => ?_)
  refine va_sld hx hb hX hbl hbA hS (fm_in (by omega)) dL_law_1067 ?_
  refine lv_topi (fun x4 ex4 => ?_)
  refine lv_aload_n hx hb dL_law_1068 rfl (lv_at hl 3 rfl) ?_
  refine lv_iload_n hx hb dL_law_1069 rfl (lv_at hl 0 rfl) ?_
  refine lv_iconst (v := 3) hx hb dL_law_1070 (by decide) ?_
  refine fx_iadd hx hb dL_law_1071 rfl zk_3 (by omega) (fun y5 ey5 ty5 => ?_)
  refine va_sld hx hb hX hbl hbA hS (fm_in (by omega)) dL_law_1072 ?_
  refine lv_topi (fun x6 ex6 => ?_)
  refine lv_aload_n hx hb dL_law_1073 rfl (lv_at hl 3 rfl) ?_
  refine lv_iload_n hx hb dL_law_1074 rfl (lv_at hl 0 rfl) ?_
  refine lv_iconst (v := 4) hx hb dL_law_1075 (by decide) ?_
  refine fx_iadd hx hb dL_law_1076 rfl zk_4 (by omega) (fun y7 ey7 ty7 => ?_)
  refine va_sld hx hb hX hbl hbA hS (fm_in (by omega)) dL_law_1077 ?_
  refine lv_topi (fun x8 ex8 => ?_)
  refine vp_callSi (va_Run.run (va_runV (As := [.int x2, .int x4, .int x6, .int x8]) (rest := []) ⟨hx, hb, hml, hown, hts⟩ (fc_X11_comes l D ad C nb M hI x2 x4 x6 x8) (cwV 4 hts gL_law_X11_comes rfl rfl rfl (by decide +kernel) ⟨Nat.le_of_ble_eq_true rfl, Nat.le_of_ble_eq_true rfl⟩) (fm_preV hc hw hS kl_0 sh_0 rfl) rfl rfl hl.1 rfl (lv_room (Nat.le_of_ble_eq_true rfl)) dL_law_1078 ⟨hk1, hs1⟩)) (fun r9 hr9 => ?_)
  refine lv_pop hx hb dL_law_1081 rfl ?_
  refine lv_aload_n hx hb dL_law_1082 rfl (lv_at hl 1 rfl) ?_
  refine lv_aload_n hx hb dL_law_1083 rfl (lv_at hl 3 rfl) ?_
  refine lv_iload_n hx hb dL_law_1084 rfl (lv_at hl 0 rfl) ?_
  refine lv_iconst (v := 1) hx hb dL_law_1085 (by decide) ?_
  refine fx_iadd hx hb dL_law_1086 rfl zk_1 (by omega) (fun y10 ey10 ty10 => ?_)
  refine va_sld hx hb hX hbl hbA hS (fm_in (by omega)) dL_law_1087 ?_
  refine lv_topi (fun x11 ex11 => ?_)
  have qx11 : x2 = x11 := by rw [ex11, ex2, ey10, ey1]
  clear ex11
  subst qx11
  refine lv_aload_n hx hb dL_law_1088 rfl (lv_at hl 3 rfl) ?_
  refine lv_iload_n hx hb dL_law_1089 rfl (lv_at hl 0 rfl) ?_
  refine lv_iconst (v := 2) hx hb dL_law_1090 (by decide) ?_
  refine fx_iadd hx hb dL_law_1091 rfl zk_2 (by omega) (fun y12 ey12 ty12 => ?_)
  refine va_sld hx hb hX hbl hbA hS (fm_in (by omega)) dL_law_1092 ?_
  refine lv_topi (fun x13 ex13 => ?_)
  have qx13 : x4 = x13 := by rw [ex13, ex4, ey12, ey3]
  clear ex13
  subst qx13
  refine lv_aload_n hx hb dL_law_1093 rfl (lv_at hl 3 rfl) ?_
  refine lv_iload_n hx hb dL_law_1094 rfl (lv_at hl 0 rfl) ?_
  refine lv_iconst (v := 3) hx hb dL_law_1095 (by decide) ?_
  refine fx_iadd hx hb dL_law_1096 rfl zk_3 (by omega) (fun y14 ey14 ty14 => ?_)
  refine va_sld hx hb hX hbl hbA hS (fm_in (by omega)) dL_law_1097 ?_
  refine lv_topi (fun x15 ex15 => ?_)
  have qx15 : x6 = x15 := by rw [ex15, ex6, ey14, ey5]
  clear ex15
  subst qx15
  refine lv_aload_n hx hb dL_law_1098 rfl (lv_at hl 3 rfl) ?_
  refine lv_iload_n hx hb dL_law_1099 rfl (lv_at hl 0 rfl) ?_
  refine lv_iconst (v := 4) hx hb dL_law_1100 (by decide) ?_
  refine fx_iadd hx hb dL_law_1101 rfl zk_4 (by omega) (fun y16 ey16 ty16 => ?_)
  refine va_sld hx hb hX hbl hbA hS (fm_in (by omega)) dL_law_1102 ?_
  refine lv_topi (fun x17 ex17 => ?_)
  have qx17 : x8 = x17 := by rw [ex17, ex8, ey16, ey7]
  clear ex17
  subst qx17
  refine vp_callSi (va_Run.run (va_runV (As := [.int x2, .int x4, .int x6, .int x8]) (rest := []) ⟨hx, hb, hml, hown, hts⟩ (fc_X12_comes l D ad C nb M hI x2 x4 x6 x8) (cwV 4 hts gL_law_X12_comes rfl rfl rfl (by decide +kernel) ⟨Nat.le_of_ble_eq_true rfl, Nat.le_of_ble_eq_true rfl⟩) (fm_preV hc hw hS kl_60 sh_60 rfl) rfl rfl hl.1 rfl (lv_room (Nat.le_of_ble_eq_true rfl)) dL_law_1103 ⟨hk1, hs1⟩)) (fun r18 hr18 => ?_)
  refine lv_pop hx hb dL_law_1106 rfl ?_
  refine lv_goto (tgt := 1834) hx hb dL_law_1107 (by decide) ?_
  have hr90 : M.1 0 0 10 = M.1 60 0 16 := hrel.1
  have hr91 : (∀ j : Nat, j < nb → M.1 50 j 0 = M.1 110 0 j) := fun j hj => by exact hrel.2.1 j hj
  have hr92 : (∀ j : Nat, j < nb → M.1 50 j 3 = M.1 113 0 j) := fun j hj => by exact hrel.2.2 j hj
  have hrel9 : M.1 0 0 10 = M.1 60 0 16 ∧ (∀ j : Nat, j < nb → M.1 50 j 0 = M.1 110 0 j) ∧ (∀ j : Nat, j < nb → M.1 50 j 3 = M.1 113 0 j) := ⟨hr90, hr91, hr92⟩
  exact kk M _ _ hw hI hS hrel9 ls (lv_sub hl [0, 1, 2, 3] rfl)

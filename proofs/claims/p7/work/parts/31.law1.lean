theorem dL_law_671 : decode cL_law 671 = .ok (.aload_n 1, 1) := by decide +kernel
theorem dL_law_672 : decode cL_law 672 = .ok (.aload_n 0, 1) := by decide +kernel
theorem dL_law_673 : decode cL_law 673 = .ok (.iload_n 3, 1) := by decide +kernel
theorem dL_law_674 : decode cL_law 674 = .ok (.iconst 1, 1) := by decide +kernel
theorem dL_law_675 : decode cL_law 675 = .ok (.iadd, 1) := by decide +kernel
theorem dL_law_676 : decode cL_law 676 = .ok (.iaload, 1) := by decide +kernel
theorem dL_law_677 : decode cL_law 677 = .ok (.aload_n 0, 1) := by decide +kernel
theorem dL_law_678 : decode cL_law 678 = .ok (.iload_n 3, 1) := by decide +kernel
theorem dL_law_679 : decode cL_law 679 = .ok (.iconst 2, 1) := by decide +kernel
theorem dL_law_680 : decode cL_law 680 = .ok (.iadd, 1) := by decide +kernel
theorem dL_law_681 : decode cL_law 681 = .ok (.iaload, 1) := by decide +kernel
theorem gL_law_X11_canHear : GoodIn lw_tbl (wsV RL 62 RX11 yX11_canHear wsX11_canHear) := ru_gL (ru_gV tw_3_103 tw_3_104 tw_3_105 tw_1_1 mT_X11_canHear)
theorem dL_law_682 : decode cL_law 682 = .ok (.invokevirtual 62, 3) := by decide +kernel
theorem dL_law_685 : decode cL_law 685 = .ok (.pop, 1) := by decide +kernel
theorem dL_law_686 : decode cL_law 686 = .ok (.aload_n 2, 1) := by decide +kernel
theorem dL_law_687 : decode cL_law 687 = .ok (.aload_n 0, 1) := by decide +kernel
theorem dL_law_688 : decode cL_law 688 = .ok (.iload_n 3, 1) := by decide +kernel
theorem dL_law_689 : decode cL_law 689 = .ok (.iconst 1, 1) := by decide +kernel
theorem dL_law_690 : decode cL_law 690 = .ok (.iadd, 1) := by decide +kernel
theorem dL_law_691 : decode cL_law 691 = .ok (.iaload, 1) := by decide +kernel
theorem dL_law_692 : decode cL_law 692 = .ok (.aload_n 0, 1) := by decide +kernel
theorem dL_law_693 : decode cL_law 693 = .ok (.iload_n 3, 1) := by decide +kernel
theorem dL_law_694 : decode cL_law 694 = .ok (.iconst 2, 1) := by decide +kernel
theorem dL_law_695 : decode cL_law 695 = .ok (.iadd, 1) := by decide +kernel
theorem dL_law_696 : decode cL_law 696 = .ok (.iaload, 1) := by decide +kernel
theorem gL_law_X12_canHear : GoodIn lw_tbl (wsV RL 65 RX12 yX12_canHear wsX12_canHear) := ru_gL (ru_gV tw_6_200 tw_6_201 tw_6_202 tw_1_12 mT_X12_canHear)
theorem dL_law_697 : decode cL_law 697 = .ok (.invokevirtual 65, 3) := by decide +kernel
theorem dL_law_700 : decode cL_law 700 = .ok (.pop, 1) := by decide +kernel
theorem dL_law_701 : decode cL_law 701 = .ok (.goto 1134, 3) := by decide +kernel
theorem dL_law_704 : decode cL_law 704 = .ok (.aload_n 1, 1) := by decide +kernel
theorem dL_law_705 : decode cL_law 705 = .ok (.aload_n 0, 1) := by decide +kernel
theorem dL_law_706 : decode cL_law 706 = .ok (.iload_n 3, 1) := by decide +kernel
theorem dL_law_707 : decode cL_law 707 = .ok (.iconst 1, 1) := by decide +kernel
theorem dL_law_708 : decode cL_law 708 = .ok (.iadd, 1) := by decide +kernel
theorem dL_law_709 : decode cL_law 709 = .ok (.iaload, 1) := by decide +kernel
theorem dL_law_710 : decode cL_law 710 = .ok (.aload_n 0, 1) := by decide +kernel
theorem dL_law_711 : decode cL_law 711 = .ok (.iload_n 3, 1) := by decide +kernel
theorem dL_law_712 : decode cL_law 712 = .ok (.iconst 2, 1) := by decide +kernel
theorem dL_law_713 : decode cL_law 713 = .ok (.iadd, 1) := by decide +kernel
theorem dL_law_714 : decode cL_law 714 = .ok (.iaload, 1) := by decide +kernel
theorem dL_law_715 : decode cL_law 715 = .ok (.aload_n 0, 1) := by decide +kernel
theorem dL_law_716 : decode cL_law 716 = .ok (.iload_n 3, 1) := by decide +kernel
theorem dL_law_717 : decode cL_law 717 = .ok (.iconst 3, 1) := by decide +kernel
theorem dL_law_718 : decode cL_law 718 = .ok (.iadd, 1) := by decide +kernel
theorem dL_law_719 : decode cL_law 719 = .ok (.iaload, 1) := by decide +kernel
theorem dL_law_720 : decode cL_law 720 = .ok (.aload_n 0, 1) := by decide +kernel
theorem dL_law_721 : decode cL_law 721 = .ok (.iload_n 3, 1) := by decide +kernel
theorem dL_law_722 : decode cL_law 722 = .ok (.iconst 4, 1) := by decide +kernel
theorem dL_law_723 : decode cL_law 723 = .ok (.iadd, 1) := by decide +kernel
theorem dL_law_724 : decode cL_law 724 = .ok (.iaload, 1) := by decide +kernel
theorem dL_law_725 : decode cL_law 725 = .ok (.i2l, 1) := by decide +kernel
theorem dL_law_726 : decode cL_law 726 = .ok (.bipush 32, 2) := by decide +kernel
theorem dL_law_728 : decode cL_law 728 = .ok (.lshl, 1) := by decide +kernel
theorem dL_law_729 : decode cL_law 729 = .ok (.aload_n 0, 1) := by decide +kernel
theorem dL_law_730 : decode cL_law 730 = .ok (.iload_n 3, 1) := by decide +kernel
theorem dL_law_731 : decode cL_law 731 = .ok (.iconst 5, 1) := by decide +kernel
theorem dL_law_732 : decode cL_law 732 = .ok (.iadd, 1) := by decide +kernel
theorem dL_law_733 : decode cL_law 733 = .ok (.iaload, 1) := by decide +kernel
theorem dL_law_734 : decode cL_law 734 = .ok (.i2l, 1) := by decide +kernel
theorem dL_law_735 : decode cL_law 735 = .ok (.ldc2_w 42, 3) := by decide +kernel
theorem dL_law_738 : decode cL_law 738 = .ok (.land, 1) := by decide +kernel
theorem dL_law_739 : decode cL_law 739 = .ok (.lor, 1) := by decide +kernel
theorem gL_law_X11_part : GoodIn lw_tbl (wsV RL 66 RX11 yX11_part wsX11_part) := ru_gL (ru_gV tw_3_128 tw_3_129 tw_3_130 tw_1_1 mT_X11_part)
theorem dL_law_740 : decode cL_law 740 = .ok (.invokevirtual 66, 3) := by decide +kernel
theorem dL_law_743 : decode cL_law 743 = .ok (.pop, 1) := by decide +kernel
theorem dL_law_744 : decode cL_law 744 = .ok (.aload_n 2, 1) := by decide +kernel
theorem dL_law_745 : decode cL_law 745 = .ok (.aload_n 0, 1) := by decide +kernel
theorem dL_law_746 : decode cL_law 746 = .ok (.iload_n 3, 1) := by decide +kernel
theorem dL_law_747 : decode cL_law 747 = .ok (.iconst 1, 1) := by decide +kernel
theorem dL_law_748 : decode cL_law 748 = .ok (.iadd, 1) := by decide +kernel
theorem dL_law_749 : decode cL_law 749 = .ok (.iaload, 1) := by decide +kernel
theorem dL_law_750 : decode cL_law 750 = .ok (.aload_n 0, 1) := by decide +kernel
theorem dL_law_751 : decode cL_law 751 = .ok (.iload_n 3, 1) := by decide +kernel
theorem dL_law_752 : decode cL_law 752 = .ok (.iconst 2, 1) := by decide +kernel
theorem dL_law_753 : decode cL_law 753 = .ok (.iadd, 1) := by decide +kernel
theorem dL_law_754 : decode cL_law 754 = .ok (.iaload, 1) := by decide +kernel
theorem dL_law_755 : decode cL_law 755 = .ok (.aload_n 0, 1) := by decide +kernel
theorem dL_law_756 : decode cL_law 756 = .ok (.iload_n 3, 1) := by decide +kernel
theorem dL_law_757 : decode cL_law 757 = .ok (.iconst 3, 1) := by decide +kernel
theorem dL_law_758 : decode cL_law 758 = .ok (.iadd, 1) := by decide +kernel
theorem dL_law_759 : decode cL_law 759 = .ok (.iaload, 1) := by decide +kernel
theorem dL_law_760 : decode cL_law 760 = .ok (.aload_n 0, 1) := by decide +kernel
theorem dL_law_761 : decode cL_law 761 = .ok (.iload_n 3, 1) := by decide +kernel
theorem dL_law_762 : decode cL_law 762 = .ok (.iconst 4, 1) := by decide +kernel
theorem dL_law_763 : decode cL_law 763 = .ok (.iadd, 1) := by decide +kernel
theorem dL_law_764 : decode cL_law 764 = .ok (.iaload, 1) := by decide +kernel
theorem dL_law_765 : decode cL_law 765 = .ok (.i2l, 1) := by decide +kernel
theorem dL_law_766 : decode cL_law 766 = .ok (.bipush 32, 2) := by decide +kernel
theorem dL_law_768 : decode cL_law 768 = .ok (.lshl, 1) := by decide +kernel
theorem dL_law_769 : decode cL_law 769 = .ok (.aload_n 0, 1) := by decide +kernel
theorem dL_law_770 : decode cL_law 770 = .ok (.iload_n 3, 1) := by decide +kernel
theorem dL_law_771 : decode cL_law 771 = .ok (.iconst 5, 1) := by decide +kernel
theorem dL_law_772 : decode cL_law 772 = .ok (.iadd, 1) := by decide +kernel
theorem dL_law_773 : decode cL_law 773 = .ok (.iaload, 1) := by decide +kernel
theorem dL_law_774 : decode cL_law 774 = .ok (.i2l, 1) := by decide +kernel
theorem dL_law_775 : decode cL_law 775 = .ok (.ldc2_w 42, 3) := by decide +kernel
theorem dL_law_778 : decode cL_law 778 = .ok (.land, 1) := by decide +kernel
theorem dL_law_779 : decode cL_law 779 = .ok (.lor, 1) := by decide +kernel
theorem gL_law_X12_part : GoodIn lw_tbl (wsV RL 70 RX12 yX12_part wsX12_part) := ru_gL (ru_gV tw_6_214 tw_6_215 tw_6_216 tw_1_12 mT_X12_part)
theorem dL_law_780 : decode cL_law 780 = .ok (.invokevirtual 70, 3) := by decide +kernel
theorem dL_law_783 : decode cL_law 783 = .ok (.pop, 1) := by decide +kernel
theorem dL_law_784 : decode cL_law 784 = .ok (.goto 1051, 3) := by decide +kernel
theorem dL_law_787 : decode cL_law 787 = .ok (.aload_n 1, 1) := by decide +kernel
theorem dL_law_788 : decode cL_law 788 = .ok (.aload_n 0, 1) := by decide +kernel
theorem dL_law_789 : decode cL_law 789 = .ok (.iload_n 3, 1) := by decide +kernel
theorem dL_law_790 : decode cL_law 790 = .ok (.iconst 1, 1) := by decide +kernel
theorem dL_law_791 : decode cL_law 791 = .ok (.iadd, 1) := by decide +kernel
theorem dL_law_792 : decode cL_law 792 = .ok (.iaload, 1) := by decide +kernel
theorem dL_law_793 : decode cL_law 793 = .ok (.aload_n 0, 1) := by decide +kernel
theorem dL_law_794 : decode cL_law 794 = .ok (.iload_n 3, 1) := by decide +kernel
theorem dL_law_795 : decode cL_law 795 = .ok (.iconst 2, 1) := by decide +kernel
theorem dL_law_796 : decode cL_law 796 = .ok (.iadd, 1) := by decide +kernel
theorem dL_law_797 : decode cL_law 797 = .ok (.iaload, 1) := by decide +kernel
theorem gL_law_X11_word : GoodIn lw_tbl (wsV RL 71 RX11 yX11_word wsX11_word) := ru_gL (ru_gV tw_3_137 tw_3_138 tw_3_139 tw_1_1 mT_X11_word)
theorem dL_law_798 : decode cL_law 798 = .ok (.invokevirtual 71, 3) := by decide +kernel
theorem dL_law_801 : decode cL_law 801 = .ok (.pop, 1) := by decide +kernel
theorem dL_law_802 : decode cL_law 802 = .ok (.aload_n 2, 1) := by decide +kernel
theorem dL_law_803 : decode cL_law 803 = .ok (.aload_n 0, 1) := by decide +kernel
theorem dL_law_804 : decode cL_law 804 = .ok (.iload_n 3, 1) := by decide +kernel
theorem dL_law_805 : decode cL_law 805 = .ok (.iconst 1, 1) := by decide +kernel
theorem dL_law_806 : decode cL_law 806 = .ok (.iadd, 1) := by decide +kernel
theorem dL_law_807 : decode cL_law 807 = .ok (.iaload, 1) := by decide +kernel
theorem dL_law_808 : decode cL_law 808 = .ok (.aload_n 0, 1) := by decide +kernel
theorem dL_law_809 : decode cL_law 809 = .ok (.iload_n 3, 1) := by decide +kernel
theorem dL_law_810 : decode cL_law 810 = .ok (.iconst 2, 1) := by decide +kernel
theorem dL_law_811 : decode cL_law 811 = .ok (.iadd, 1) := by decide +kernel
theorem dL_law_812 : decode cL_law 812 = .ok (.iaload, 1) := by decide +kernel
theorem gL_law_X12_word : GoodIn lw_tbl (wsV RL 74 RX12 yX12_word wsX12_word) := ru_gL (ru_gV tw_6_219 tw_6_220 tw_6_221 tw_1_12 mT_X12_word)
theorem dL_law_813 : decode cL_law 813 = .ok (.invokevirtual 74, 3) := by decide +kernel
theorem dL_law_816 : decode cL_law 816 = .ok (.pop, 1) := by decide +kernel
theorem dL_law_817 : decode cL_law 817 = .ok (.goto 1018, 3) := by decide +kernel
theorem dL_law_820 : decode cL_law 820 = .ok (.aload_n 1, 1) := by decide +kernel
theorem dL_law_821 : decode cL_law 821 = .ok (.aload_n 0, 1) := by decide +kernel
theorem dL_law_822 : decode cL_law 822 = .ok (.iload_n 3, 1) := by decide +kernel
theorem dL_law_823 : decode cL_law 823 = .ok (.iconst 1, 1) := by decide +kernel
theorem dL_law_824 : decode cL_law 824 = .ok (.iadd, 1) := by decide +kernel
theorem dL_law_825 : decode cL_law 825 = .ok (.iaload, 1) := by decide +kernel
theorem gL_law_X11_isTrue : GoodIn lw_tbl (wsV RL 75 RX11 yX11_isTrue wsX11_isTrue) := ru_gL (ru_gV tw_3_149 tw_3_150 tw_3_151 tw_1_1 mT_X11_isTrue)
theorem dL_law_826 : decode cL_law 826 = .ok (.invokevirtual 75, 3) := by decide +kernel
theorem dL_law_829 : decode cL_law 829 = .ok (.pop, 1) := by decide +kernel
theorem dL_law_830 : decode cL_law 830 = .ok (.aload_n 2, 1) := by decide +kernel
theorem dL_law_831 : decode cL_law 831 = .ok (.aload_n 0, 1) := by decide +kernel
theorem dL_law_832 : decode cL_law 832 = .ok (.iload_n 3, 1) := by decide +kernel
theorem dL_law_833 : decode cL_law 833 = .ok (.iconst 1, 1) := by decide +kernel
theorem dL_law_834 : decode cL_law 834 = .ok (.iadd, 1) := by decide +kernel
theorem dL_law_835 : decode cL_law 835 = .ok (.iaload, 1) := by decide +kernel
theorem gL_law_X12_isTrue : GoodIn lw_tbl (wsV RL 78 RX12 yX12_isTrue wsX12_isTrue) := ru_gL (ru_gV tw_6_227 tw_6_228 tw_6_229 tw_1_12 mT_X12_isTrue)
theorem dL_law_836 : decode cL_law 836 = .ok (.invokevirtual 78, 3) := by decide +kernel
theorem dL_law_839 : decode cL_law 839 = .ok (.pop, 1) := by decide +kernel
theorem dL_law_840 : decode cL_law 840 = .ok (.goto 995, 3) := by decide +kernel
theorem dL_law_843 : decode cL_law 843 = .ok (.aload_n 1, 1) := by decide +kernel
theorem dL_law_844 : decode cL_law 844 = .ok (.aload_n 0, 1) := by decide +kernel
theorem dL_law_845 : decode cL_law 845 = .ok (.iload_n 3, 1) := by decide +kernel
theorem dL_law_846 : decode cL_law 846 = .ok (.iconst 1, 1) := by decide +kernel
theorem dL_law_847 : decode cL_law 847 = .ok (.iadd, 1) := by decide +kernel
theorem dL_law_848 : decode cL_law 848 = .ok (.iaload, 1) := by decide +kernel
theorem dL_law_849 : decode cL_law 849 = .ok (.i2l, 1) := by decide +kernel
theorem dL_law_850 : decode cL_law 850 = .ok (.bipush 32, 2) := by decide +kernel
theorem dL_law_852 : decode cL_law 852 = .ok (.lshl, 1) := by decide +kernel
theorem dL_law_853 : decode cL_law 853 = .ok (.aload_n 0, 1) := by decide +kernel
theorem dL_law_854 : decode cL_law 854 = .ok (.iload_n 3, 1) := by decide +kernel
theorem dL_law_855 : decode cL_law 855 = .ok (.iconst 2, 1) := by decide +kernel
theorem dL_law_856 : decode cL_law 856 = .ok (.iadd, 1) := by decide +kernel
theorem dL_law_857 : decode cL_law 857 = .ok (.iaload, 1) := by decide +kernel
theorem dL_law_858 : decode cL_law 858 = .ok (.i2l, 1) := by decide +kernel
theorem dL_law_859 : decode cL_law 859 = .ok (.ldc2_w 42, 3) := by decide +kernel
theorem dL_law_862 : decode cL_law 862 = .ok (.land, 1) := by decide +kernel
theorem dL_law_863 : decode cL_law 863 = .ok (.lor, 1) := by decide +kernel
theorem gL_law_X11_lane : GoodIn lw_tbl (wsV RL 79 RX11 yX11_lane wsX11_lane) := ru_gL (ru_gV tw_3_157 tw_3_158 tw_3_159 tw_1_1 mT_X11_lane)
theorem dL_law_864 : decode cL_law 864 = .ok (.invokevirtual 79, 3) := by decide +kernel
theorem dL_law_867 : decode cL_law 867 = .ok (.pop, 1) := by decide +kernel
theorem dL_law_868 : decode cL_law 868 = .ok (.aload_n 2, 1) := by decide +kernel
theorem dL_law_869 : decode cL_law 869 = .ok (.aload_n 0, 1) := by decide +kernel
theorem dL_law_870 : decode cL_law 870 = .ok (.iload_n 3, 1) := by decide +kernel
theorem dL_law_871 : decode cL_law 871 = .ok (.iconst 1, 1) := by decide +kernel
theorem dL_law_872 : decode cL_law 872 = .ok (.iadd, 1) := by decide +kernel
theorem dL_law_873 : decode cL_law 873 = .ok (.iaload, 1) := by decide +kernel
theorem dL_law_874 : decode cL_law 874 = .ok (.i2l, 1) := by decide +kernel
theorem dL_law_875 : decode cL_law 875 = .ok (.bipush 32, 2) := by decide +kernel
theorem dL_law_877 : decode cL_law 877 = .ok (.lshl, 1) := by decide +kernel
theorem dL_law_878 : decode cL_law 878 = .ok (.aload_n 0, 1) := by decide +kernel
theorem dL_law_879 : decode cL_law 879 = .ok (.iload_n 3, 1) := by decide +kernel
theorem dL_law_880 : decode cL_law 880 = .ok (.iconst 2, 1) := by decide +kernel
theorem dL_law_881 : decode cL_law 881 = .ok (.iadd, 1) := by decide +kernel
theorem dL_law_882 : decode cL_law 882 = .ok (.iaload, 1) := by decide +kernel
theorem dL_law_883 : decode cL_law 883 = .ok (.i2l, 1) := by decide +kernel
theorem dL_law_884 : decode cL_law 884 = .ok (.ldc2_w 42, 3) := by decide +kernel
theorem dL_law_887 : decode cL_law 887 = .ok (.land, 1) := by decide +kernel
theorem dL_law_888 : decode cL_law 888 = .ok (.lor, 1) := by decide +kernel
theorem gL_law_X12_lane : GoodIn lw_tbl (wsV RL 83 RX12 yX12_lane wsX12_lane) := ru_gL (ru_gV tw_6_231 tw_6_232 tw_6_233 tw_1_12 mT_X12_lane)
theorem dL_law_889 : decode cL_law 889 = .ok (.invokevirtual 83, 3) := by decide +kernel
theorem dL_law_892 : decode cL_law 892 = .ok (.pop, 1) := by decide +kernel
theorem dL_law_893 : decode cL_law 893 = .ok (.goto 942, 3) := by decide +kernel
theorem dL_law_896 : decode cL_law 896 = .ok (.aload_n 1, 1) := by decide +kernel
theorem dL_law_897 : decode cL_law 897 = .ok (.aload_n 0, 1) := by decide +kernel
theorem dL_law_898 : decode cL_law 898 = .ok (.iload_n 3, 1) := by decide +kernel
theorem dL_law_899 : decode cL_law 899 = .ok (.iconst 1, 1) := by decide +kernel
theorem dL_law_900 : decode cL_law 900 = .ok (.iadd, 1) := by decide +kernel
theorem dL_law_901 : decode cL_law 901 = .ok (.iaload, 1) := by decide +kernel
theorem dL_law_902 : decode cL_law 902 = .ok (.aload_n 0, 1) := by decide +kernel
theorem dL_law_903 : decode cL_law 903 = .ok (.iload_n 3, 1) := by decide +kernel
theorem dL_law_904 : decode cL_law 904 = .ok (.iconst 2, 1) := by decide +kernel
theorem dL_law_905 : decode cL_law 905 = .ok (.iadd, 1) := by decide +kernel
theorem dL_law_906 : decode cL_law 906 = .ok (.iaload, 1) := by decide +kernel
theorem dL_law_907 : decode cL_law 907 = .ok (.aload_n 0, 1) := by decide +kernel
theorem dL_law_908 : decode cL_law 908 = .ok (.iload_n 3, 1) := by decide +kernel
theorem dL_law_909 : decode cL_law 909 = .ok (.iconst 3, 1) := by decide +kernel
theorem dL_law_910 : decode cL_law 910 = .ok (.iadd, 1) := by decide +kernel
theorem dL_law_911 : decode cL_law 911 = .ok (.iaload, 1) := by decide +kernel
theorem gL_law_X11_flown : GoodIn lw_tbl (wsV RL 84 RX11 yX11_flown wsX11_flown) := ru_gL (ru_gV tw_3_165 tw_3_166 tw_3_167 tw_1_1 mT_X11_flown)
theorem dL_law_912 : decode cL_law 912 = .ok (.invokevirtual 84, 3) := by decide +kernel
theorem dL_law_915 : decode cL_law 915 = .ok (.pop, 1) := by decide +kernel
theorem dL_law_916 : decode cL_law 916 = .ok (.aload_n 2, 1) := by decide +kernel
theorem dL_law_917 : decode cL_law 917 = .ok (.aload_n 0, 1) := by decide +kernel
theorem dL_law_918 : decode cL_law 918 = .ok (.iload_n 3, 1) := by decide +kernel
theorem dL_law_919 : decode cL_law 919 = .ok (.iconst 1, 1) := by decide +kernel
theorem dL_law_920 : decode cL_law 920 = .ok (.iadd, 1) := by decide +kernel
theorem dL_law_921 : decode cL_law 921 = .ok (.iaload, 1) := by decide +kernel
theorem dL_law_922 : decode cL_law 922 = .ok (.aload_n 0, 1) := by decide +kernel
theorem dL_law_923 : decode cL_law 923 = .ok (.iload_n 3, 1) := by decide +kernel
theorem dL_law_924 : decode cL_law 924 = .ok (.iconst 2, 1) := by decide +kernel
theorem dL_law_925 : decode cL_law 925 = .ok (.iadd, 1) := by decide +kernel
theorem dL_law_926 : decode cL_law 926 = .ok (.iaload, 1) := by decide +kernel
theorem dL_law_927 : decode cL_law 927 = .ok (.aload_n 0, 1) := by decide +kernel
theorem dL_law_928 : decode cL_law 928 = .ok (.iload_n 3, 1) := by decide +kernel
theorem dL_law_929 : decode cL_law 929 = .ok (.iconst 3, 1) := by decide +kernel
theorem dL_law_930 : decode cL_law 930 = .ok (.iadd, 1) := by decide +kernel
theorem dL_law_931 : decode cL_law 931 = .ok (.iaload, 1) := by decide +kernel
theorem gL_law_X12_flown : GoodIn lw_tbl (wsV RL 87 RX12 yX12_flown wsX12_flown) := ru_gL (ru_gV tw_6_235 tw_6_236 tw_6_237 tw_1_12 mT_X12_flown)
theorem dL_law_932 : decode cL_law 932 = .ok (.invokevirtual 87, 3) := by decide +kernel
theorem dL_law_935 : decode cL_law 935 = .ok (.pop, 1) := by decide +kernel
theorem dL_law_936 : decode cL_law 936 = .ok (.goto 899, 3) := by decide +kernel
theorem dL_law_939 : decode cL_law 939 = .ok (.aload_n 1, 1) := by decide +kernel
theorem dL_law_940 : decode cL_law 940 = .ok (.aload_n 0, 1) := by decide +kernel
theorem dL_law_941 : decode cL_law 941 = .ok (.iload_n 3, 1) := by decide +kernel
theorem dL_law_942 : decode cL_law 942 = .ok (.iconst 1, 1) := by decide +kernel
theorem dL_law_943 : decode cL_law 943 = .ok (.iadd, 1) := by decide +kernel
theorem dL_law_944 : decode cL_law 944 = .ok (.iaload, 1) := by decide +kernel
theorem dL_law_945 : decode cL_law 945 = .ok (.aload_n 0, 1) := by decide +kernel
theorem dL_law_946 : decode cL_law 946 = .ok (.iload_n 3, 1) := by decide +kernel
theorem dL_law_947 : decode cL_law 947 = .ok (.iconst 2, 1) := by decide +kernel
theorem dL_law_948 : decode cL_law 948 = .ok (.iadd, 1) := by decide +kernel
theorem dL_law_949 : decode cL_law 949 = .ok (.iaload, 1) := by decide +kernel
theorem dL_law_950 : decode cL_law 950 = .ok (.aload_n 0, 1) := by decide +kernel
theorem dL_law_951 : decode cL_law 951 = .ok (.iload_n 3, 1) := by decide +kernel
theorem dL_law_952 : decode cL_law 952 = .ok (.iconst 3, 1) := by decide +kernel
theorem dL_law_953 : decode cL_law 953 = .ok (.iadd, 1) := by decide +kernel
theorem dL_law_954 : decode cL_law 954 = .ok (.iaload, 1) := by decide +kernel
theorem gL_law_X11_share : GoodIn lw_tbl (wsV RL 88 RX11 yX11_share wsX11_share) := ru_gL (ru_gV tw_3_183 tw_3_184 tw_3_185 tw_1_1 mT_X11_share)
theorem dL_law_955 : decode cL_law 955 = .ok (.invokevirtual 88, 3) := by decide +kernel
theorem dL_law_958 : decode cL_law 958 = .ok (.pop2, 1) := by decide +kernel
theorem dL_law_959 : decode cL_law 959 = .ok (.aload_n 2, 1) := by decide +kernel
theorem dL_law_960 : decode cL_law 960 = .ok (.aload_n 0, 1) := by decide +kernel
theorem dL_law_961 : decode cL_law 961 = .ok (.iload_n 3, 1) := by decide +kernel
theorem dL_law_962 : decode cL_law 962 = .ok (.iconst 1, 1) := by decide +kernel
theorem dL_law_963 : decode cL_law 963 = .ok (.iadd, 1) := by decide +kernel
theorem dL_law_964 : decode cL_law 964 = .ok (.iaload, 1) := by decide +kernel
theorem dL_law_965 : decode cL_law 965 = .ok (.aload_n 0, 1) := by decide +kernel
theorem dL_law_966 : decode cL_law 966 = .ok (.iload_n 3, 1) := by decide +kernel
theorem dL_law_967 : decode cL_law 967 = .ok (.iconst 2, 1) := by decide +kernel
theorem dL_law_968 : decode cL_law 968 = .ok (.iadd, 1) := by decide +kernel
theorem dL_law_969 : decode cL_law 969 = .ok (.iaload, 1) := by decide +kernel
theorem dL_law_970 : decode cL_law 970 = .ok (.aload_n 0, 1) := by decide +kernel
theorem dL_law_971 : decode cL_law 971 = .ok (.iload_n 3, 1) := by decide +kernel
theorem dL_law_972 : decode cL_law 972 = .ok (.iconst 3, 1) := by decide +kernel
theorem dL_law_973 : decode cL_law 973 = .ok (.iadd, 1) := by decide +kernel
theorem dL_law_974 : decode cL_law 974 = .ok (.iaload, 1) := by decide +kernel
theorem gL_law_X12_share : GoodIn lw_tbl (wsV RL 91 RX12 yX12_share wsX12_share) := ru_gL (ru_gV tw_7_7 tw_7_8 tw_7_9 tw_1_12 mT_X12_share)
theorem dL_law_975 : decode cL_law 975 = .ok (.invokevirtual 91, 3) := by decide +kernel
theorem dL_law_978 : decode cL_law 978 = .ok (.pop2, 1) := by decide +kernel
theorem dL_law_979 : decode cL_law 979 = .ok (.goto 856, 3) := by decide +kernel
theorem dL_law_982 : decode cL_law 982 = .ok (.aload_n 1, 1) := by decide +kernel
theorem dL_law_983 : decode cL_law 983 = .ok (.aload_n 0, 1) := by decide +kernel
theorem dL_law_984 : decode cL_law 984 = .ok (.iload_n 3, 1) := by decide +kernel
theorem dL_law_985 : decode cL_law 985 = .ok (.iconst 1, 1) := by decide +kernel
theorem dL_law_986 : decode cL_law 986 = .ok (.iadd, 1) := by decide +kernel
theorem dL_law_987 : decode cL_law 987 = .ok (.iaload, 1) := by decide +kernel
theorem dL_law_988 : decode cL_law 988 = .ok (.aload_n 0, 1) := by decide +kernel
theorem dL_law_989 : decode cL_law 989 = .ok (.iload_n 3, 1) := by decide +kernel
theorem dL_law_990 : decode cL_law 990 = .ok (.iconst 2, 1) := by decide +kernel
theorem dL_law_991 : decode cL_law 991 = .ok (.iadd, 1) := by decide +kernel
theorem dL_law_992 : decode cL_law 992 = .ok (.iaload, 1) := by decide +kernel
theorem dL_law_993 : decode cL_law 993 = .ok (.aload_n 0, 1) := by decide +kernel
theorem dL_law_994 : decode cL_law 994 = .ok (.iload_n 3, 1) := by decide +kernel
theorem dL_law_995 : decode cL_law 995 = .ok (.iconst 3, 1) := by decide +kernel
theorem dL_law_996 : decode cL_law 996 = .ok (.iadd, 1) := by decide +kernel
theorem dL_law_997 : decode cL_law 997 = .ok (.iaload, 1) := by decide +kernel
theorem dL_law_998 : decode cL_law 998 = .ok (.aload_n 0, 1) := by decide +kernel
theorem dL_law_999 : decode cL_law 999 = .ok (.iload_n 3, 1) := by decide +kernel
theorem dL_law_1000 : decode cL_law 1000 = .ok (.iconst 4, 1) := by decide +kernel
theorem dL_law_1001 : decode cL_law 1001 = .ok (.iadd, 1) := by decide +kernel
theorem dL_law_1002 : decode cL_law 1002 = .ok (.iaload, 1) := by decide +kernel
theorem gL_law_X11_parted : GoodIn lw_tbl (wsV RL 92 RX11 yX11_parted wsX11_parted) := ru_gL (ru_gV tw_3_209 tw_3_210 tw_3_211 tw_1_1 mT_X11_parted)
theorem dL_law_1003 : decode cL_law 1003 = .ok (.invokevirtual 92, 3) := by decide +kernel
theorem dL_law_1006 : decode cL_law 1006 = .ok (.pop, 1) := by decide +kernel
theorem dL_law_1007 : decode cL_law 1007 = .ok (.aload_n 2, 1) := by decide +kernel
theorem dL_law_1008 : decode cL_law 1008 = .ok (.aload_n 0, 1) := by decide +kernel
theorem dL_law_1009 : decode cL_law 1009 = .ok (.iload_n 3, 1) := by decide +kernel
theorem dL_law_1010 : decode cL_law 1010 = .ok (.iconst 1, 1) := by decide +kernel
theorem dL_law_1011 : decode cL_law 1011 = .ok (.iadd, 1) := by decide +kernel
theorem dL_law_1012 : decode cL_law 1012 = .ok (.iaload, 1) := by decide +kernel
theorem dL_law_1013 : decode cL_law 1013 = .ok (.aload_n 0, 1) := by decide +kernel
theorem dL_law_1014 : decode cL_law 1014 = .ok (.iload_n 3, 1) := by decide +kernel
theorem dL_law_1015 : decode cL_law 1015 = .ok (.iconst 2, 1) := by decide +kernel
theorem dL_law_1016 : decode cL_law 1016 = .ok (.iadd, 1) := by decide +kernel
theorem dL_law_1017 : decode cL_law 1017 = .ok (.iaload, 1) := by decide +kernel
theorem dL_law_1018 : decode cL_law 1018 = .ok (.aload_n 0, 1) := by decide +kernel
theorem dL_law_1019 : decode cL_law 1019 = .ok (.iload_n 3, 1) := by decide +kernel
theorem dL_law_1020 : decode cL_law 1020 = .ok (.iconst 3, 1) := by decide +kernel
theorem dL_law_1021 : decode cL_law 1021 = .ok (.iadd, 1) := by decide +kernel
theorem dL_law_1022 : decode cL_law 1022 = .ok (.iaload, 1) := by decide +kernel
theorem dL_law_1023 : decode cL_law 1023 = .ok (.aload_n 0, 1) := by decide +kernel
theorem dL_law_1024 : decode cL_law 1024 = .ok (.iload_n 3, 1) := by decide +kernel
theorem dL_law_1025 : decode cL_law 1025 = .ok (.iconst 4, 1) := by decide +kernel
theorem dL_law_1026 : decode cL_law 1026 = .ok (.iadd, 1) := by decide +kernel
theorem dL_law_1027 : decode cL_law 1027 = .ok (.iaload, 1) := by decide +kernel
theorem gL_law_X12_parted : GoodIn lw_tbl (wsV RL 95 RX12 yX12_parted wsX12_parted) := ru_gL (ru_gV tw_7_19 tw_7_20 tw_7_21 tw_1_12 mT_X12_parted)
theorem dL_law_1028 : decode cL_law 1028 = .ok (.invokevirtual 95, 3) := by decide +kernel
theorem dL_law_1031 : decode cL_law 1031 = .ok (.pop, 1) := by decide +kernel
theorem dL_law_1032 : decode cL_law 1032 = .ok (.goto 803, 3) := by decide +kernel
theorem dL_law_1035 : decode cL_law 1035 = .ok (.aload_n 1, 1) := by decide +kernel
theorem dL_law_1036 : decode cL_law 1036 = .ok (.aload_n 0, 1) := by decide +kernel
theorem dL_law_1037 : decode cL_law 1037 = .ok (.iload_n 3, 1) := by decide +kernel
theorem dL_law_1038 : decode cL_law 1038 = .ok (.iconst 1, 1) := by decide +kernel
theorem dL_law_1039 : decode cL_law 1039 = .ok (.iadd, 1) := by decide +kernel
theorem dL_law_1040 : decode cL_law 1040 = .ok (.iaload, 1) := by decide +kernel
theorem gL_law_X11_stays : GoodIn lw_tbl (wsV RL 96 RX11 yX11_stays wsX11_stays) := ru_gL (ru_gV tw_4_4 tw_4_5 tw_4_6 tw_1_1 mT_X11_stays)
theorem dL_law_1041 : decode cL_law 1041 = .ok (.invokevirtual 96, 3) := by decide +kernel
theorem dL_law_1044 : decode cL_law 1044 = .ok (.pop, 1) := by decide +kernel
theorem dL_law_1045 : decode cL_law 1045 = .ok (.aload_n 2, 1) := by decide +kernel
theorem dL_law_1046 : decode cL_law 1046 = .ok (.aload_n 0, 1) := by decide +kernel
theorem dL_law_1047 : decode cL_law 1047 = .ok (.iload_n 3, 1) := by decide +kernel
theorem dL_law_1048 : decode cL_law 1048 = .ok (.iconst 1, 1) := by decide +kernel
theorem dL_law_1049 : decode cL_law 1049 = .ok (.iadd, 1) := by decide +kernel
theorem dL_law_1050 : decode cL_law 1050 = .ok (.iaload, 1) := by decide +kernel
theorem gL_law_X12_stays : GoodIn lw_tbl (wsV RL 99 RX12 yX12_stays wsX12_stays) := ru_gL (ru_gV tw_7_31 tw_7_32 tw_7_33 tw_1_12 mT_X12_stays)
theorem dL_law_1051 : decode cL_law 1051 = .ok (.invokevirtual 99, 3) := by decide +kernel
theorem dL_law_1054 : decode cL_law 1054 = .ok (.pop, 1) := by decide +kernel
theorem dL_law_1055 : decode cL_law 1055 = .ok (.goto 780, 3) := by decide +kernel
theorem dL_law_1058 : decode cL_law 1058 = .ok (.aload_n 1, 1) := by decide +kernel
theorem dL_law_1059 : decode cL_law 1059 = .ok (.aload_n 0, 1) := by decide +kernel
theorem dL_law_1060 : decode cL_law 1060 = .ok (.iload_n 3, 1) := by decide +kernel
theorem dL_law_1061 : decode cL_law 1061 = .ok (.iconst 1, 1) := by decide +kernel
theorem dL_law_1062 : decode cL_law 1062 = .ok (.iadd, 1) := by decide +kernel
theorem dL_law_1063 : decode cL_law 1063 = .ok (.iaload, 1) := by decide +kernel
theorem dL_law_1064 : decode cL_law 1064 = .ok (.aload_n 0, 1) := by decide +kernel
theorem dL_law_1065 : decode cL_law 1065 = .ok (.iload_n 3, 1) := by decide +kernel
theorem dL_law_1066 : decode cL_law 1066 = .ok (.iconst 2, 1) := by decide +kernel
theorem dL_law_1067 : decode cL_law 1067 = .ok (.iadd, 1) := by decide +kernel
theorem dL_law_1068 : decode cL_law 1068 = .ok (.iaload, 1) := by decide +kernel
theorem dL_law_1069 : decode cL_law 1069 = .ok (.aload_n 0, 1) := by decide +kernel
theorem dL_law_1070 : decode cL_law 1070 = .ok (.iload_n 3, 1) := by decide +kernel
theorem dL_law_1071 : decode cL_law 1071 = .ok (.iconst 3, 1) := by decide +kernel
theorem dL_law_1072 : decode cL_law 1072 = .ok (.iadd, 1) := by decide +kernel
theorem dL_law_1073 : decode cL_law 1073 = .ok (.iaload, 1) := by decide +kernel
theorem dL_law_1074 : decode cL_law 1074 = .ok (.aload_n 0, 1) := by decide +kernel
theorem dL_law_1075 : decode cL_law 1075 = .ok (.iload_n 3, 1) := by decide +kernel
theorem dL_law_1076 : decode cL_law 1076 = .ok (.iconst 4, 1) := by decide +kernel
theorem dL_law_1077 : decode cL_law 1077 = .ok (.iadd, 1) := by decide +kernel
theorem dL_law_1078 : decode cL_law 1078 = .ok (.iaload, 1) := by decide +kernel
theorem gL_law_X11_comes : GoodIn lw_tbl (wsV RL 100 RX11 yX11_comes wsX11_comes) := ru_gL (ru_gV tw_4_8 tw_4_9 tw_4_10 tw_1_1 mT_X11_comes)
theorem dL_law_1079 : decode cL_law 1079 = .ok (.invokevirtual 100, 3) := by decide +kernel
theorem dL_law_1082 : decode cL_law 1082 = .ok (.pop, 1) := by decide +kernel
theorem dL_law_1083 : decode cL_law 1083 = .ok (.aload_n 2, 1) := by decide +kernel
theorem dL_law_1084 : decode cL_law 1084 = .ok (.aload_n 0, 1) := by decide +kernel
theorem dL_law_1085 : decode cL_law 1085 = .ok (.iload_n 3, 1) := by decide +kernel
theorem dL_law_1086 : decode cL_law 1086 = .ok (.iconst 1, 1) := by decide +kernel
theorem dL_law_1087 : decode cL_law 1087 = .ok (.iadd, 1) := by decide +kernel
theorem dL_law_1088 : decode cL_law 1088 = .ok (.iaload, 1) := by decide +kernel
theorem dL_law_1089 : decode cL_law 1089 = .ok (.aload_n 0, 1) := by decide +kernel
theorem dL_law_1090 : decode cL_law 1090 = .ok (.iload_n 3, 1) := by decide +kernel
theorem dL_law_1091 : decode cL_law 1091 = .ok (.iconst 2, 1) := by decide +kernel
theorem dL_law_1092 : decode cL_law 1092 = .ok (.iadd, 1) := by decide +kernel
theorem dL_law_1093 : decode cL_law 1093 = .ok (.iaload, 1) := by decide +kernel
theorem dL_law_1094 : decode cL_law 1094 = .ok (.aload_n 0, 1) := by decide +kernel
theorem dL_law_1095 : decode cL_law 1095 = .ok (.iload_n 3, 1) := by decide +kernel
theorem dL_law_1096 : decode cL_law 1096 = .ok (.iconst 3, 1) := by decide +kernel
theorem dL_law_1097 : decode cL_law 1097 = .ok (.iadd, 1) := by decide +kernel
theorem dL_law_1098 : decode cL_law 1098 = .ok (.iaload, 1) := by decide +kernel
theorem dL_law_1099 : decode cL_law 1099 = .ok (.aload_n 0, 1) := by decide +kernel
theorem dL_law_1100 : decode cL_law 1100 = .ok (.iload_n 3, 1) := by decide +kernel
theorem dL_law_1101 : decode cL_law 1101 = .ok (.iconst 4, 1) := by decide +kernel
theorem dL_law_1102 : decode cL_law 1102 = .ok (.iadd, 1) := by decide +kernel
theorem dL_law_1103 : decode cL_law 1103 = .ok (.iaload, 1) := by decide +kernel
theorem gL_law_X12_comes : GoodIn lw_tbl (wsV RL 103 RX12 yX12_comes wsX12_comes) := ru_gL (ru_gV tw_7_35 tw_7_36 tw_7_37 tw_1_12 mT_X12_comes)
theorem dL_law_1104 : decode cL_law 1104 = .ok (.invokevirtual 103, 3) := by decide +kernel
theorem dL_law_1107 : decode cL_law 1107 = .ok (.pop, 1) := by decide +kernel
theorem dL_law_1108 : decode cL_law 1108 = .ok (.goto 727, 3) := by decide +kernel
set_option maxHeartbeats 1000000 in
set_option maxRecDepth 20000 in
theorem lb_10 {p : Program} {l : Launch} {e : Env} {s : State} {m : MethodId} {below : List Frame} {meth : Method} {c : Code} {D : va_G} {ad : Nat → Nat → Nat} {C : Nat → Nat → ClassId} {nb : Nat} {M : fm_M} {b L : Nat} {xs : Nat → Int32} {H : Heap} {locs : List Loc} {kc sl : Nat} {i : Int32} (C0 : lw_At p s m meth c b L xs) (hkc : kc ≤ 10000) (hsl : sl ≤ 300000) (hc : fm_Cx D ad C nb (fun q : Nat => s.heap.size ≤ q) s) (hw : fm_at D ad C nb M H) (hI : fm_I nb ad M) (hS : va_S (fun q : Nat => s.heap.size ≤ q) s.heap H locs) (hi : 0 ≤ i.toInt ∧ i.toInt + 6 ≤ L) (hL : L ≤ 3072) (hrel : M.1 0 0 10 = M.1 60 0 16 ∧ M.1 0 0 9 = M.1 60 0 0 ∧ M.1 0 0 11 = M.1 60 0 21 ∧ (∀ j : Nat, j < nb → M.1 50 j 2 = M.1 111 0 j) ∧ (∀ j : Nat, j < 4 → M.1 46 j 1 = M.1 175 0 j) ∧ (∀ j : Nat, j < 4 → M.1 46 j 2 = M.1 176 0 j) ∧ (∀ j : Nat, j < nb → M.1 50 j 0 = M.1 110 0 j) ∧ (∀ j : Nat, j < nb → M.1 50 j 1 = M.1 112 0 j) ∧ M.1 1 0 2 = M.1 60 0 5 ∧ (∀ s i : Nat, s < 4 → i < 40 → M.1 47 s i = M.1 177 0 (40 * s + i)) ∧ rt_WN M ∧ rt_PC nb M ∧ rt_FB M ∧ (∀ j : Nat, j < nb → rt_nkM M j = rt_nmM M j)) (kk : ∀ (M1 : fm_M) (H1 : Heap) (locs1 : List Loc), fm_at D ad C nb M1 H1 → fm_I nb ad M1 → va_S (fun q : Nat => s.heap.size ≤ q) s.heap H1 locs1 → M1.1 0 0 10 = M1.1 60 0 16 ∧ M1.1 0 0 9 = M1.1 60 0 0 ∧ M1.1 0 0 11 = M1.1 60 0 21 ∧ (∀ j : Nat, j < nb → M1.1 50 j 2 = M1.1 111 0 j) ∧ (∀ j : Nat, j < 4 → M1.1 46 j 1 = M1.1 175 0 j) ∧ (∀ j : Nat, j < 4 → M1.1 46 j 2 = M1.1 176 0 j) ∧ (∀ j : Nat, j < nb → M1.1 50 j 0 = M1.1 110 0 j) ∧ (∀ j : Nat, j < nb → M1.1 50 j 1 = M1.1 112 0 j) ∧ M1.1 1 0 2 = M1.1 60 0 5 ∧ (∀ s i : Nat, s < 4 → i < 40 → M1.1 47 s i = M1.1 177 0 (40 * s + i)) ∧ rt_WN M1 ∧ rt_PC nb M1 ∧ rt_FB M1 ∧ (∀ j : Nat, j < nb → rt_nkM M1 j = rt_nmM M1 j) → ∀ ls : Array Slot, lv_has ls 4 [(3, .int i), (2, .ref (ad 60 0)), (1, .ref (ad 0 0)), (0, .ref b)] → W p l e room_1 s m #[Value.ref b] below meth c H1 locs1 kc sl (lw_Z below #[Value.ref b] s) (F0 m 1835 ls [])) (ls : Array Slot) (hl : lv_has ls 4 [(3, .int i), (2, .ref (ad 60 0)), (1, .ref (ad 0 0)), (0, .ref b)]) : W p l e room_1 s m #[Value.ref b] below meth c H locs kc sl (lw_Z below #[Value.ref b] s) (F0 m 671 ls []) := by
  obtain ⟨hx, hb, hr, hml, hown, hts, hX, hbl, hlocks, hgv⟩ := id C0
  have hown : s.vm.findClass RL = some m.cls := hown
  have hb : c.code = cL_law := hb
  have hbA : ¬ (fun q : Nat => s.heap.size ≤ q) b := Nat.not_le.mpr hbl
  have hk1 : kc + 0 ≤ room_1.cells := by show kc + 0 ≤ 600000; omega
  have hs1 : sl + 0 ≤ room_1.slots := by show sl + 0 ≤ 7302250; omega
  have hI0 := hI
  have hPC : rt_PC nb M := hrel.2.2.2.2.2.2.2.2.2.2.2.1
  have hCI : rt_CI nb M := hPC.1
  have hTI : rt_TI nb M := hPC.2.1
  refine lv_aload_n hx hb dL_law_671 rfl (lv_at hl 2 rfl) ?_
  refine lv_aload_n hx hb dL_law_672 rfl (lv_at hl 3 rfl) ?_
  refine lv_iload_n hx hb dL_law_673 rfl (lv_at hl 0 rfl) ?_
  refine lv_iconst (v := 1) hx hb dL_law_674 (by decide) ?_
  refine fx_iadd hx hb dL_law_675 rfl zk_1 (by omega) (fun y1 ey1 ty1 => ?_)
  refine va_sld hx hb hX hbl hbA hS (fm_in (by omega)) dL_law_676 ?_
  refine lv_topi (fun x2 ex2 => ?_)
  refine lv_aload_n hx hb dL_law_677 rfl (lv_at hl 3 rfl) ?_
  refine lv_iload_n hx hb dL_law_678 rfl (lv_at hl 0 rfl) ?_
  refine lv_iconst (v := 2) hx hb dL_law_679 (by decide) ?_
  refine fx_iadd hx hb dL_law_680 rfl zk_2 (by omega) (fun y3 ey3 ty3 => ?_)
  refine va_sld hx hb hX hbl hbA hS (fm_in (by omega)) dL_law_681 ?_
  refine lv_topi (fun x4 ex4 => ?_)
  refine fm_ci (va_runV (As := [.int x2, .int x4]) (rest := []) ⟨hx, hb, hml, hown, hts⟩ (fc_X11_canHear l D ad C nb M hI x2 x4 (by assumption) (by assumption)) (cwV 2 hts gL_law_X11_canHear rfl rfl rfl (by decide +kernel) ⟨Nat.le_of_ble_eq_true rfl, Nat.le_of_ble_eq_true rfl⟩) (fm_preV hc hw hS kl_0 sh_0 rfl) rfl rfl hl.1 rfl (lv_room (Nat.le_of_ble_eq_true rfl)) dL_law_682 ⟨hk1, hs1⟩) hS hc (fun r5 M6 H locs hr5 hw hS => ?_)
  obtain ⟨hI, hEM6, hr5⟩ := hr5
  refine lv_pop hx hb dL_law_685 rfl ?_
  refine lv_aload_n hx hb dL_law_686 rfl (lv_at hl 1 rfl) ?_
  refine lv_aload_n hx hb dL_law_687 rfl (lv_at hl 3 rfl) ?_
  refine lv_iload_n hx hb dL_law_688 rfl (lv_at hl 0 rfl) ?_
  refine lv_iconst (v := 1) hx hb dL_law_689 (by decide) ?_
  refine fx_iadd hx hb dL_law_690 rfl zk_1 (by omega) (fun y7 ey7 ty7 => ?_)
  refine va_sld hx hb hX hbl hbA hS (fm_in (by omega)) dL_law_691 ?_
  refine lv_topi (fun x8 ex8 => ?_)
  have qx8 : x2 = x8 := by rw [ex8, ex2, ey7, ey1]
  clear ex8
  subst qx8
  refine lv_aload_n hx hb dL_law_692 rfl (lv_at hl 3 rfl) ?_
  refine lv_iload_n hx hb dL_law_693 rfl (lv_at hl 0 rfl) ?_
  refine lv_iconst (v := 2) hx hb dL_law_694 (by decide) ?_
  refine fx_iadd hx hb dL_law_695 rfl zk_2 (by omega) (fun y9 ey9 ty9 => ?_)
  refine va_sld hx hb hX hbl hbA hS (fm_in (by omega)) dL_law_696 ?_
  refine lv_topi (fun x10 ex10 => ?_)
  have qx10 : x4 = x10 := by rw [ex10, ex4, ey9, ey3]
  clear ex10
  subst qx10
  refine vp_callSi (va_Run.run (va_runV (As := [.int x2, .int x4]) (rest := []) ⟨hx, hb, hml, hown, hts⟩ (fc_X12_canHear l D ad C nb M6 hI x2 x4) (cwV 2 hts gL_law_X12_canHear rfl rfl rfl (by decide +kernel) ⟨Nat.le_of_ble_eq_true rfl, Nat.le_of_ble_eq_true rfl⟩) (fm_preV hc hw hS kl_60 sh_60 rfl) rfl rfl hl.1 rfl (lv_room (Nat.le_of_ble_eq_true rfl)) dL_law_697 ⟨hk1, hs1⟩)) (fun r11 hr11 => ?_)
  refine lv_pop hx hb dL_law_700 rfl ?_
  refine lv_goto (tgt := 1835) hx hb dL_law_701 (by decide) ?_
  have hr90 : M6.1 0 0 10 = M6.1 60 0 16 := by rw [(hEM6 0 0 10 (by decide)).1, (hEM6 60 0 16 (by decide)).1]; exact hrel.1
  have hr91 : M6.1 0 0 9 = M6.1 60 0 0 := by rw [(hEM6 0 0 9 (by decide)).1, (hEM6 60 0 0 (by decide)).1]; exact hrel.2.1
  have hr92 : M6.1 0 0 11 = M6.1 60 0 21 := by rw [(hEM6 0 0 11 (by decide)).1, (hEM6 60 0 21 (by decide)).1]; exact hrel.2.2.1
  have hr93 : (∀ j : Nat, j < nb → M6.1 50 j 2 = M6.1 111 0 j) := fun j hj => by rw [(hEM6 50 j 2 (by decide)).1, (hEM6 111 0 j (by rw [cd_111]; decide)).1]; exact hrel.2.2.2.1 j hj
  have hr94 : (∀ j : Nat, j < 4 → M6.1 46 j 1 = M6.1 175 0 j) := fun j hj => by rw [(hEM6 46 j 1 (by decide)).1, (hEM6 175 0 j (by rw [cd_175]; decide)).1]; exact hrel.2.2.2.2.1 j hj
  have hr95 : (∀ j : Nat, j < 4 → M6.1 46 j 2 = M6.1 176 0 j) := fun j hj => by rw [(hEM6 46 j 2 (by decide)).1, (hEM6 176 0 j (by rw [cd_176]; decide)).1]; exact hrel.2.2.2.2.2.1 j hj
  have hr96 : (∀ j : Nat, j < nb → M6.1 50 j 0 = M6.1 110 0 j) := fun j hj => by rw [(hEM6 50 j 0 (by decide)).1, (hEM6 110 0 j (by rw [cd_110]; decide)).1]; exact hrel.2.2.2.2.2.2.1 j hj
  have hr97 : (∀ j : Nat, j < nb → M6.1 50 j 1 = M6.1 112 0 j) := fun j hj => by rw [(hEM6 50 j 1 (by decide)).1, (hEM6 112 0 j (by rw [cd_112]; decide)).1]; exact hrel.2.2.2.2.2.2.2.1 j hj
  have hr98 : M6.1 1 0 2 = M6.1 60 0 5 := by rw [(hEM6 1 0 2 (by decide)).1, (hEM6 60 0 5 (by decide)).1]; exact hrel.2.2.2.2.2.2.2.2.1
  have hs90 : (∀ s i : Nat, s < 4 → i < 40 → M6.1 47 s i = M6.1 177 0 (40 * s + i)) := fun s i hs hi => by rw [(hEM6 47 s i (by rw [cd_47]; decide)).1, (hEM6 177 0 (40 * s + i) (by rw [cd_177]; decide)).1]; exact hrel.2.2.2.2.2.2.2.2.2.1 s i hs hi
  have hs91_1 : rt_WN M6 := rt_WN_same hEM6 (by decide) hrel.2.2.2.2.2.2.2.2.2.2.1
  have hs91 : rt_WN M6 := hs91_1
  have hs92_1 : rt_PC nb M6 := rt_PC_ci hEM6 (by decide) hr5 hrel.2.2.2.2.2.2.2.2.2.2.2.1
  have hs92 : rt_PC nb M6 := hs92_1
  have hs93_1 : rt_FB M6 := rt_FB_same hEM6 (by decide) hrel.2.2.2.2.2.2.2.2.2.2.2.2.1
  have hs93 : rt_FB M6 := hs93_1
  have hs94 : (∀ j : Nat, j < nb → rt_nkM M6 j = rt_nmM M6 j) := by rw [rt_nkM_same hEM6 (by decide), rt_nmM_same hEM6 (by decide)]; exact hrel.2.2.2.2.2.2.2.2.2.2.2.2.2
  have hrel9 : M6.1 0 0 10 = M6.1 60 0 16 ∧ M6.1 0 0 9 = M6.1 60 0 0 ∧ M6.1 0 0 11 = M6.1 60 0 21 ∧ (∀ j : Nat, j < nb → M6.1 50 j 2 = M6.1 111 0 j) ∧ (∀ j : Nat, j < 4 → M6.1 46 j 1 = M6.1 175 0 j) ∧ (∀ j : Nat, j < 4 → M6.1 46 j 2 = M6.1 176 0 j) ∧ (∀ j : Nat, j < nb → M6.1 50 j 0 = M6.1 110 0 j) ∧ (∀ j : Nat, j < nb → M6.1 50 j 1 = M6.1 112 0 j) ∧ M6.1 1 0 2 = M6.1 60 0 5 ∧ (∀ s i : Nat, s < 4 → i < 40 → M6.1 47 s i = M6.1 177 0 (40 * s + i)) ∧ rt_WN M6 ∧ rt_PC nb M6 ∧ rt_FB M6 ∧ (∀ j : Nat, j < nb → rt_nkM M6 j = rt_nmM M6 j) := ⟨hr90, hr91, hr92, hr93, hr94, hr95, hr96, hr97, hr98, hs90, hs91, hs92, hs93, hs94⟩
  exact kk M6 _ _ hw hI hS hrel9 ls (lv_sub hl [0, 1, 2, 3] rfl)
set_option maxHeartbeats 1000000 in
set_option maxRecDepth 20000 in
theorem lb_11 {p : Program} {l : Launch} {e : Env} {s : State} {m : MethodId} {below : List Frame} {meth : Method} {c : Code} {D : va_G} {ad : Nat → Nat → Nat} {C : Nat → Nat → ClassId} {nb : Nat} {M : fm_M} {b L : Nat} {xs : Nat → Int32} {H : Heap} {locs : List Loc} {kc sl : Nat} {i : Int32} (C0 : lw_At p s m meth c b L xs) (hkc : kc ≤ 10000) (hsl : sl ≤ 300000) (hc : fm_Cx D ad C nb (fun q : Nat => s.heap.size ≤ q) s) (hw : fm_at D ad C nb M H) (hI : fm_I nb ad M) (hS : va_S (fun q : Nat => s.heap.size ≤ q) s.heap H locs) (hi : 0 ≤ i.toInt ∧ i.toInt + 6 ≤ L) (hL : L ≤ 3072) (hrel : M.1 0 0 10 = M.1 60 0 16 ∧ M.1 0 0 9 = M.1 60 0 0 ∧ M.1 0 0 11 = M.1 60 0 21 ∧ (∀ j : Nat, j < nb → M.1 50 j 2 = M.1 111 0 j) ∧ (∀ j : Nat, j < 4 → M.1 46 j 1 = M.1 175 0 j) ∧ (∀ j : Nat, j < 4 → M.1 46 j 2 = M.1 176 0 j) ∧ (∀ j : Nat, j < nb → M.1 50 j 0 = M.1 110 0 j) ∧ (∀ j : Nat, j < nb → M.1 50 j 1 = M.1 112 0 j) ∧ M.1 1 0 2 = M.1 60 0 5 ∧ (∀ s i : Nat, s < 4 → i < 40 → M.1 47 s i = M.1 177 0 (40 * s + i)) ∧ rt_WN M ∧ rt_PC nb M ∧ rt_FB M ∧ (∀ j : Nat, j < nb → rt_nkM M j = rt_nmM M j)) (kk : ∀ (M1 : fm_M) (H1 : Heap) (locs1 : List Loc), fm_at D ad C nb M1 H1 → fm_I nb ad M1 → va_S (fun q : Nat => s.heap.size ≤ q) s.heap H1 locs1 → M1.1 0 0 10 = M1.1 60 0 16 ∧ M1.1 0 0 9 = M1.1 60 0 0 ∧ M1.1 0 0 11 = M1.1 60 0 21 ∧ (∀ j : Nat, j < nb → M1.1 50 j 2 = M1.1 111 0 j) ∧ (∀ j : Nat, j < 4 → M1.1 46 j 1 = M1.1 175 0 j) ∧ (∀ j : Nat, j < 4 → M1.1 46 j 2 = M1.1 176 0 j) ∧ (∀ j : Nat, j < nb → M1.1 50 j 0 = M1.1 110 0 j) ∧ (∀ j : Nat, j < nb → M1.1 50 j 1 = M1.1 112 0 j) ∧ M1.1 1 0 2 = M1.1 60 0 5 ∧ (∀ s i : Nat, s < 4 → i < 40 → M1.1 47 s i = M1.1 177 0 (40 * s + i)) ∧ rt_WN M1 ∧ rt_PC nb M1 ∧ rt_FB M1 ∧ (∀ j : Nat, j < nb → rt_nkM M1 j = rt_nmM M1 j) → ∀ ls : Array Slot, lv_has ls 4 [(3, .int i), (2, .ref (ad 60 0)), (1, .ref (ad 0 0)), (0, .ref b)] → W p l e room_1 s m #[Value.ref b] below meth c H1 locs1 kc sl (lw_Z below #[Value.ref b] s) (F0 m 1835 ls [])) (ls : Array Slot) (hl : lv_has ls 4 [(3, .int i), (2, .ref (ad 60 0)), (1, .ref (ad 0 0)), (0, .ref b)]) : W p l e room_1 s m #[Value.ref b] below meth c H locs kc sl (lw_Z below #[Value.ref b] s) (F0 m 704 ls []) := by
  obtain ⟨hx, hb, hr, hml, hown, hts, hX, hbl, hlocks, hgv⟩ := id C0
  have hown : s.vm.findClass RL = some m.cls := hown
  have hb : c.code = cL_law := hb
  have hbA : ¬ (fun q : Nat => s.heap.size ≤ q) b := Nat.not_le.mpr hbl
  have hk1 : kc + 0 ≤ room_1.cells := by show kc + 0 ≤ 600000; omega
  have hs1 : sl + 0 ≤ room_1.slots := by show sl + 0 ≤ 7302250; omega
  have hI0 := hI
  have hPC : rt_PC nb M := hrel.2.2.2.2.2.2.2.2.2.2.2.1
  have hCI : rt_CI nb M := hPC.1
  have hTI : rt_TI nb M := hPC.2.1
  refine lv_aload_n hx hb dL_law_704 rfl (lv_at hl 2 rfl) ?_
  refine lv_aload_n hx hb dL_law_705 rfl (lv_at hl 3 rfl) ?_
  refine lv_iload_n hx hb dL_law_706 rfl (lv_at hl 0 rfl) ?_
  refine lv_iconst (v := 1) hx hb dL_law_707 (by decide) ?_
  refine fx_iadd hx hb dL_law_708 rfl zk_1 (by omega) (fun y1 ey1 ty1 => ?_)
  refine va_sld hx hb hX hbl hbA hS (fm_in (by omega)) dL_law_709 ?_
  refine lv_topi (fun x2 ex2 => ?_)
  refine lv_aload_n hx hb dL_law_710 rfl (lv_at hl 3 rfl) ?_
  refine lv_iload_n hx hb dL_law_711 rfl (lv_at hl 0 rfl) ?_
  refine lv_iconst (v := 2) hx hb dL_law_712 (by decide) ?_
  refine fx_iadd hx hb dL_law_713 rfl zk_2 (by omega) (fun y3 ey3 ty3 => ?_)
  refine va_sld hx hb hX hbl hbA hS (fm_in (by omega)) dL_law_714 ?_
  refine lv_topi (fun x4 ex4 => ?_)
  refine lv_aload_n hx hb dL_law_715 rfl (lv_at hl 3 rfl) ?_
  refine lv_iload_n hx hb dL_law_716 rfl (lv_at hl 0 rfl) ?_
  refine lv_iconst (v := 3) hx hb dL_law_717 (by decide) ?_
  refine fx_iadd hx hb dL_law_718 rfl zk_3 (by omega) (fun y5 ey5 ty5 => ?_)
  refine va_sld hx hb hX hbl hbA hS (fm_in (by omega)) dL_law_719 ?_
  refine lv_topi (fun x6 ex6 => ?_)
  refine lv_aload_n hx hb dL_law_720 rfl (lv_at hl 3 rfl) ?_
  refine lv_iload_n hx hb dL_law_721 rfl (lv_at hl 0 rfl) ?_
  refine lv_iconst (v := 4) hx hb dL_law_722 (by decide) ?_
  refine fx_iadd hx hb dL_law_723 rfl zk_4 (by omega) (fun y7 ey7 ty7 => ?_)
  refine va_sld hx hb hX hbl hbA hS (fm_in (by omega)) dL_law_724 ?_
  refine lv_topi (fun x8 ex8 => ?_)
  refine fx_i2l hx hb dL_law_725 rfl (fun y9 ey9 ty9 => ?_)
  refine lv_bipush (v := 32) hx hb dL_law_726 (by decide) ?_
  refine lv_lshl (v := y9 <<< ((32 : Int32).toInt64 &&& 63)) hx hb dL_law_728 rfl ?_
  refine lv_topl (fun y10 ey10 => ?_)
  refine lv_aload_n hx hb dL_law_729 rfl (lv_at hl 3 rfl) ?_
  refine lv_iload_n hx hb dL_law_730 rfl (lv_at hl 0 rfl) ?_
  refine lv_iconst (v := 5) hx hb dL_law_731 (by decide) ?_
  refine fx_iadd hx hb dL_law_732 rfl zk_5 (by omega) (fun y11 ey11 ty11 => ?_)
  refine va_sld hx hb hX hbl hbA hS (fm_in (by omega)) dL_law_733 ?_
  refine lv_topi (fun x12 ex12 => ?_)
  refine fx_i2l hx hb dL_law_734 rfl (fun y13 ey13 ty13 => ?_)
  refine lv_ldc2 (v := 4294967295) hx hb hown (hts (.constantLong RL 42 (4294967295)) (rt_pc_in 7 _ (List.mem_of_getElem? (i := 231) (by decide +kernel)))) dL_law_735 ?_
  refine lv_land hx hb dL_law_738 ?_
  refine lv_topl (fun y14 ey14 => ?_)
  refine lv_lor hx hb dL_law_739 ?_
  refine lv_topl (fun y15 ey15 => ?_)
  refine fm_ci (va_runV (As := [.int x2, .int x4, .int x6, .long y15]) (rest := []) ⟨hx, hb, hml, hown, hts⟩ (fc_X11_part l D ad C nb M hI x2 x4 x6 y15) (cwV 4 hts gL_law_X11_part rfl rfl rfl (by decide +kernel) ⟨Nat.le_of_ble_eq_true rfl, Nat.le_of_ble_eq_true rfl⟩) (fm_preV hc hw hS kl_0 sh_0 rfl) rfl rfl hl.1 rfl (lv_room (Nat.le_of_ble_eq_true rfl)) dL_law_740 ⟨hk1, hs1⟩) hS hc (fun r16 M17 H locs hr16 hw hS => ?_)
  obtain ⟨hI, hEM17, hr16⟩ := hr16
  refine lv_pop hx hb dL_law_743 rfl ?_
  refine lv_aload_n hx hb dL_law_744 rfl (lv_at hl 1 rfl) ?_
  refine lv_aload_n hx hb dL_law_745 rfl (lv_at hl 3 rfl) ?_
  refine lv_iload_n hx hb dL_law_746 rfl (lv_at hl 0 rfl) ?_
  refine lv_iconst (v := 1) hx hb dL_law_747 (by decide) ?_
  refine fx_iadd hx hb dL_law_748 rfl zk_1 (by omega) (fun y18 ey18 ty18 => ?_)
  refine va_sld hx hb hX hbl hbA hS (fm_in (by omega)) dL_law_749 ?_
  refine lv_topi (fun x19 ex19 => ?_)
  have qx19 : x2 = x19 := by rw [ex19, ex2, ey18, ey1]
  clear ex19
  subst qx19
  refine lv_aload_n hx hb dL_law_750 rfl (lv_at hl 3 rfl) ?_
  refine lv_iload_n hx hb dL_law_751 rfl (lv_at hl 0 rfl) ?_
  refine lv_iconst (v := 2) hx hb dL_law_752 (by decide) ?_
  refine fx_iadd hx hb dL_law_753 rfl zk_2 (by omega) (fun y20 ey20 ty20 => ?_)
  refine va_sld hx hb hX hbl hbA hS (fm_in (by omega)) dL_law_754 ?_
  refine lv_topi (fun x21 ex21 => ?_)
  have qx21 : x4 = x21 := by rw [ex21, ex4, ey20, ey3]
  clear ex21
  subst qx21
  refine lv_aload_n hx hb dL_law_755 rfl (lv_at hl 3 rfl) ?_
  refine lv_iload_n hx hb dL_law_756 rfl (lv_at hl 0 rfl) ?_
  refine lv_iconst (v := 3) hx hb dL_law_757 (by decide) ?_
  refine fx_iadd hx hb dL_law_758 rfl zk_3 (by omega) (fun y22 ey22 ty22 => ?_)
  refine va_sld hx hb hX hbl hbA hS (fm_in (by omega)) dL_law_759 ?_
  refine lv_topi (fun x23 ex23 => ?_)
  have qx23 : x6 = x23 := by rw [ex23, ex6, ey22, ey5]
  clear ex23
  subst qx23
  refine lv_aload_n hx hb dL_law_760 rfl (lv_at hl 3 rfl) ?_
  refine lv_iload_n hx hb dL_law_761 rfl (lv_at hl 0 rfl) ?_
  refine lv_iconst (v := 4) hx hb dL_law_762 (by decide) ?_
  refine fx_iadd hx hb dL_law_763 rfl zk_4 (by omega) (fun y24 ey24 ty24 => ?_)
  refine va_sld hx hb hX hbl hbA hS (fm_in (by omega)) dL_law_764 ?_
  refine lv_topi (fun x25 ex25 => ?_)
  have qx25 : x8 = x25 := by rw [ex25, ex8, ey24, ey7]
  clear ex25
  subst qx25
  refine fx_i2l hx hb dL_law_765 rfl (fun y26 ey26 ty26 => ?_)
  refine lv_bipush (v := 32) hx hb dL_law_766 (by decide) ?_
  refine lv_lshl (v := y26 <<< ((32 : Int32).toInt64 &&& 63)) hx hb dL_law_768 rfl ?_
  refine lv_topl (fun y27 ey27 => ?_)
  refine lv_aload_n hx hb dL_law_769 rfl (lv_at hl 3 rfl) ?_
  refine lv_iload_n hx hb dL_law_770 rfl (lv_at hl 0 rfl) ?_
  refine lv_iconst (v := 5) hx hb dL_law_771 (by decide) ?_
  refine fx_iadd hx hb dL_law_772 rfl zk_5 (by omega) (fun y28 ey28 ty28 => ?_)
  refine va_sld hx hb hX hbl hbA hS (fm_in (by omega)) dL_law_773 ?_
  refine lv_topi (fun x29 ex29 => ?_)
  have qx29 : x12 = x29 := by rw [ex29, ex12, ey28, ey11]
  clear ex29
  subst qx29
  refine fx_i2l hx hb dL_law_774 rfl (fun y30 ey30 ty30 => ?_)
  refine lv_ldc2 (v := 4294967295) hx hb hown (hts (.constantLong RL 42 (4294967295)) (rt_pc_in 7 _ (List.mem_of_getElem? (i := 231) (by decide +kernel)))) dL_law_775 ?_
  refine lv_land hx hb dL_law_778 ?_
  refine lv_topl (fun y31 ey31 => ?_)
  refine lv_lor hx hb dL_law_779 ?_
  refine lv_topl (fun y32 ey32 => ?_)
  have qy32 : y15 = y32 := by rw [ey15, ey10, ey9, ey14, ey13, ey32, ey27, ey26, ey31, ey30]
  clear ey32
  subst qy32
  refine fm_ci (va_runV (As := [.int x2, .int x4, .int x6, .long y15]) (rest := []) ⟨hx, hb, hml, hown, hts⟩ (fc_X12_part l D ad C nb M17 hI x2 x4 x6 y15) (cwV 4 hts gL_law_X12_part rfl rfl rfl (by decide +kernel) ⟨Nat.le_of_ble_eq_true rfl, Nat.le_of_ble_eq_true rfl⟩) (fm_preV hc hw hS kl_60 sh_60 rfl) rfl rfl hl.1 rfl (lv_room (Nat.le_of_ble_eq_true rfl)) dL_law_780 ⟨hk1, hs1⟩) hS hc (fun r33 M34 H locs hr33 hw hS => ?_)
  obtain ⟨hI, hEM34, hr33⟩ := hr33
  refine lv_pop hx hb dL_law_783 rfl ?_
  refine lv_goto (tgt := 1835) hx hb dL_law_784 (by decide) ?_
  have hr90 : M34.1 0 0 10 = M34.1 60 0 16 := by rw [(hEM34 0 0 10 (by decide)).1, (hEM17 0 0 10 (by decide)).1, (hEM34 60 0 16 (by decide)).1, (hEM17 60 0 16 (by decide)).1]; exact hrel.1
  have hr91 : M34.1 0 0 9 = M34.1 60 0 0 := by rw [(hEM34 0 0 9 (by decide)).1, (hEM17 0 0 9 (by decide)).1, (hEM34 60 0 0 (by decide)).1, (hEM17 60 0 0 (by decide)).1]; exact hrel.2.1
  have hr92 : M34.1 0 0 11 = M34.1 60 0 21 := by rw [(hEM34 0 0 11 (by decide)).1, (hEM17 0 0 11 (by decide)).1, (hEM34 60 0 21 (by decide)).1, (hEM17 60 0 21 (by decide)).1]; exact hrel.2.2.1
  have hr93 : (∀ j : Nat, j < nb → M34.1 50 j 2 = M34.1 111 0 j) := fun j hj => by rw [(hEM34 50 j 2 (by decide)).1, (hEM17 50 j 2 (by decide)).1, (hEM34 111 0 j (by rw [cd_111]; decide)).1, (hEM17 111 0 j (by rw [cd_111]; decide)).1]; exact hrel.2.2.2.1 j hj
  have hr94 : (∀ j : Nat, j < 4 → M34.1 46 j 1 = M34.1 175 0 j) := fun j hj => by rw [(hEM34 46 j 1 (by decide)).1, (hEM17 46 j 1 (by decide)).1, (hEM34 175 0 j (by rw [cd_175]; decide)).1, (hEM17 175 0 j (by rw [cd_175]; decide)).1]; exact hrel.2.2.2.2.1 j hj
  have hr95 : (∀ j : Nat, j < 4 → M34.1 46 j 2 = M34.1 176 0 j) := fun j hj => by rw [(hEM34 46 j 2 (by decide)).1, (hEM17 46 j 2 (by decide)).1, (hEM34 176 0 j (by rw [cd_176]; decide)).1, (hEM17 176 0 j (by rw [cd_176]; decide)).1]; exact hrel.2.2.2.2.2.1 j hj
  have hr96 : (∀ j : Nat, j < nb → M34.1 50 j 0 = M34.1 110 0 j) := fun j hj => by rw [(hEM34 50 j 0 (by decide)).1, (hEM17 50 j 0 (by decide)).1, (hEM34 110 0 j (by rw [cd_110]; decide)).1, (hEM17 110 0 j (by rw [cd_110]; decide)).1]; exact hrel.2.2.2.2.2.2.1 j hj
  have hr97 : (∀ j : Nat, j < nb → M34.1 50 j 1 = M34.1 112 0 j) := fun j hj => by rw [(hEM34 50 j 1 (by decide)).1, (hEM17 50 j 1 (by decide)).1, (hEM34 112 0 j (by rw [cd_112]; decide)).1, (hEM17 112 0 j (by rw [cd_112]; decide)).1]; exact hrel.2.2.2.2.2.2.2.1 j hj
  have hr98 : M34.1 1 0 2 = M34.1 60 0 5 := by rw [(hEM34 1 0 2 (by decide)).1, (hEM17 1 0 2 (by decide)).1, (hEM34 60 0 5 (by decide)).1, (hEM17 60 0 5 (by decide)).1]; exact hrel.2.2.2.2.2.2.2.2.1
  have hs90 : (∀ s i : Nat, s < 4 → i < 40 → M34.1 47 s i = M34.1 177 0 (40 * s + i)) := fun s i hs hi => by rw [(hEM34 47 s i (by rw [cd_47]; decide)).1, (hEM17 47 s i (by rw [cd_47]; decide)).1, (hEM34 177 0 (40 * s + i) (by rw [cd_177]; decide)).1, (hEM17 177 0 (40 * s + i) (by rw [cd_177]; decide)).1]; exact hrel.2.2.2.2.2.2.2.2.2.1 s i hs hi
  have hs91_1 : rt_WN M17 := rt_WN_same hEM17 (by decide) hrel.2.2.2.2.2.2.2.2.2.2.1
  have hs91 : rt_WN M34 := rt_WN_same hEM34 (by decide) hs91_1
  have hs92_1 : rt_PC nb M17 := rt_PC_same hEM17 (by decide) hrel.2.2.2.2.2.2.2.2.2.2.2.1
  have hs92 : rt_PC nb M34 := rt_PC_same hEM34 (by decide) hs92_1
  have hs93_1 : rt_FB M17 := rt_FB_same hEM17 (by decide) hrel.2.2.2.2.2.2.2.2.2.2.2.2.1
  have hs93 : rt_FB M34 := rt_FB_same hEM34 (by decide) hs93_1
  have hs94 : (∀ j : Nat, j < nb → rt_nkM M34 j = rt_nmM M34 j) := by rw [rt_nkM_same hEM34 (by decide), rt_nkM_same hEM17 (by decide), rt_nmM_same hEM34 (by decide), rt_nmM_same hEM17 (by decide)]; exact hrel.2.2.2.2.2.2.2.2.2.2.2.2.2
  have hrel9 : M34.1 0 0 10 = M34.1 60 0 16 ∧ M34.1 0 0 9 = M34.1 60 0 0 ∧ M34.1 0 0 11 = M34.1 60 0 21 ∧ (∀ j : Nat, j < nb → M34.1 50 j 2 = M34.1 111 0 j) ∧ (∀ j : Nat, j < 4 → M34.1 46 j 1 = M34.1 175 0 j) ∧ (∀ j : Nat, j < 4 → M34.1 46 j 2 = M34.1 176 0 j) ∧ (∀ j : Nat, j < nb → M34.1 50 j 0 = M34.1 110 0 j) ∧ (∀ j : Nat, j < nb → M34.1 50 j 1 = M34.1 112 0 j) ∧ M34.1 1 0 2 = M34.1 60 0 5 ∧ (∀ s i : Nat, s < 4 → i < 40 → M34.1 47 s i = M34.1 177 0 (40 * s + i)) ∧ rt_WN M34 ∧ rt_PC nb M34 ∧ rt_FB M34 ∧ (∀ j : Nat, j < nb → rt_nkM M34 j = rt_nmM M34 j) := ⟨hr90, hr91, hr92, hr93, hr94, hr95, hr96, hr97, hr98, hs90, hs91, hs92, hs93, hs94⟩
  exact kk M34 _ _ hw hI hS hrel9 ls (lv_sub hl [0, 1, 2, 3] rfl)
set_option maxHeartbeats 1000000 in
set_option maxRecDepth 20000 in
theorem lb_12 {p : Program} {l : Launch} {e : Env} {s : State} {m : MethodId} {below : List Frame} {meth : Method} {c : Code} {D : va_G} {ad : Nat → Nat → Nat} {C : Nat → Nat → ClassId} {nb : Nat} {M : fm_M} {b L : Nat} {xs : Nat → Int32} {H : Heap} {locs : List Loc} {kc sl : Nat} {i : Int32} (C0 : lw_At p s m meth c b L xs) (hkc : kc ≤ 10000) (hsl : sl ≤ 300000) (hc : fm_Cx D ad C nb (fun q : Nat => s.heap.size ≤ q) s) (hw : fm_at D ad C nb M H) (hI : fm_I nb ad M) (hS : va_S (fun q : Nat => s.heap.size ≤ q) s.heap H locs) (hi : 0 ≤ i.toInt ∧ i.toInt + 6 ≤ L) (hL : L ≤ 3072) (hrel : M.1 0 0 10 = M.1 60 0 16 ∧ M.1 0 0 9 = M.1 60 0 0 ∧ M.1 0 0 11 = M.1 60 0 21 ∧ (∀ j : Nat, j < nb → M.1 50 j 2 = M.1 111 0 j) ∧ (∀ j : Nat, j < 4 → M.1 46 j 1 = M.1 175 0 j) ∧ (∀ j : Nat, j < 4 → M.1 46 j 2 = M.1 176 0 j) ∧ (∀ j : Nat, j < nb → M.1 50 j 0 = M.1 110 0 j) ∧ (∀ j : Nat, j < nb → M.1 50 j 1 = M.1 112 0 j) ∧ M.1 1 0 2 = M.1 60 0 5 ∧ (∀ s i : Nat, s < 4 → i < 40 → M.1 47 s i = M.1 177 0 (40 * s + i)) ∧ rt_WN M ∧ rt_PC nb M ∧ rt_FB M ∧ (∀ j : Nat, j < nb → rt_nkM M j = rt_nmM M j)) (kk : ∀ (M1 : fm_M) (H1 : Heap) (locs1 : List Loc), fm_at D ad C nb M1 H1 → fm_I nb ad M1 → va_S (fun q : Nat => s.heap.size ≤ q) s.heap H1 locs1 → M1.1 0 0 10 = M1.1 60 0 16 ∧ M1.1 0 0 9 = M1.1 60 0 0 ∧ M1.1 0 0 11 = M1.1 60 0 21 ∧ (∀ j : Nat, j < nb → M1.1 50 j 2 = M1.1 111 0 j) ∧ (∀ j : Nat, j < 4 → M1.1 46 j 1 = M1.1 175 0 j) ∧ (∀ j : Nat, j < 4 → M1.1 46 j 2 = M1.1 176 0 j) ∧ (∀ j : Nat, j < nb → M1.1 50 j 0 = M1.1 110 0 j) ∧ (∀ j : Nat, j < nb → M1.1 50 j 1 = M1.1 112 0 j) ∧ M1.1 1 0 2 = M1.1 60 0 5 ∧ (∀ s i : Nat, s < 4 → i < 40 → M1.1 47 s i = M1.1 177 0 (40 * s + i)) ∧ rt_WN M1 ∧ rt_PC nb M1 ∧ rt_FB M1 ∧ (∀ j : Nat, j < nb → rt_nkM M1 j = rt_nmM M1 j) → ∀ ls : Array Slot, lv_has ls 4 [(3, .int i), (2, .ref (ad 60 0)), (1, .ref (ad 0 0)), (0, .ref b)] → W p l e room_1 s m #[Value.ref b] below meth c H1 locs1 kc sl (lw_Z below #[Value.ref b] s) (F0 m 1835 ls [])) (ls : Array Slot) (hl : lv_has ls 4 [(3, .int i), (2, .ref (ad 60 0)), (1, .ref (ad 0 0)), (0, .ref b)]) : W p l e room_1 s m #[Value.ref b] below meth c H locs kc sl (lw_Z below #[Value.ref b] s) (F0 m 787 ls []) := by
  obtain ⟨hx, hb, hr, hml, hown, hts, hX, hbl, hlocks, hgv⟩ := id C0
  have hown : s.vm.findClass RL = some m.cls := hown
  have hb : c.code = cL_law := hb
  have hbA : ¬ (fun q : Nat => s.heap.size ≤ q) b := Nat.not_le.mpr hbl
  have hk1 : kc + 0 ≤ room_1.cells := by show kc + 0 ≤ 600000; omega
  have hs1 : sl + 0 ≤ room_1.slots := by show sl + 0 ≤ 7302250; omega
  have hI0 := hI
  have hPC : rt_PC nb M := hrel.2.2.2.2.2.2.2.2.2.2.2.1
  have hCI : rt_CI nb M := hPC.1
  have hTI : rt_TI nb M := hPC.2.1
  refine lv_aload_n hx hb dL_law_787 rfl (lv_at hl 2 rfl) ?_
  refine lv_aload_n hx hb dL_law_788 rfl (lv_at hl 3 rfl) ?_
  refine lv_iload_n hx hb dL_law_789 rfl (lv_at hl 0 rfl) ?_
  refine lv_iconst (v := 1) hx hb dL_law_790 (by decide) ?_
  refine fx_iadd hx hb dL_law_791 rfl zk_1 (by omega) (fun y1 ey1 ty1 => ?_)
  refine va_sld hx hb hX hbl hbA hS (fm_in (by omega)) dL_law_792 ?_
  refine lv_topi (fun x2 ex2 => ?_)
  refine lv_aload_n hx hb dL_law_793 rfl (lv_at hl 3 rfl) ?_
  refine lv_iload_n hx hb dL_law_794 rfl (lv_at hl 0 rfl) ?_
  refine lv_iconst (v := 2) hx hb dL_law_795 (by decide) ?_
  refine fx_iadd hx hb dL_law_796 rfl zk_2 (by omega) (fun y3 ey3 ty3 => ?_)
  refine va_sld hx hb hX hbl hbA hS (fm_in (by omega)) dL_law_797 ?_
  refine lv_topi (fun x4 ex4 => ?_)
  refine vp_callSi (va_Run.run (va_runV (As := [.int x2, .int x4]) (rest := []) ⟨hx, hb, hml, hown, hts⟩ (fc_X11_word l D ad C nb M hI x2 x4) (cwV 2 hts gL_law_X11_word rfl rfl rfl (by decide +kernel) ⟨Nat.le_of_ble_eq_true rfl, Nat.le_of_ble_eq_true rfl⟩) (fm_preV hc hw hS kl_0 sh_0 rfl) rfl rfl hl.1 rfl (lv_room (Nat.le_of_ble_eq_true rfl)) dL_law_798 ⟨hk1, hs1⟩)) (fun r5 hr5 => ?_)
  refine lv_pop hx hb dL_law_801 rfl ?_
  refine lv_aload_n hx hb dL_law_802 rfl (lv_at hl 1 rfl) ?_
  refine lv_aload_n hx hb dL_law_803 rfl (lv_at hl 3 rfl) ?_
  refine lv_iload_n hx hb dL_law_804 rfl (lv_at hl 0 rfl) ?_
  refine lv_iconst (v := 1) hx hb dL_law_805 (by decide) ?_
  refine fx_iadd hx hb dL_law_806 rfl zk_1 (by omega) (fun y6 ey6 ty6 => ?_)
  refine va_sld hx hb hX hbl hbA hS (fm_in (by omega)) dL_law_807 ?_
  refine lv_topi (fun x7 ex7 => ?_)
  have qx7 : x2 = x7 := by rw [ex7, ex2, ey6, ey1]
  clear ex7
  subst qx7
  refine lv_aload_n hx hb dL_law_808 rfl (lv_at hl 3 rfl) ?_
  refine lv_iload_n hx hb dL_law_809 rfl (lv_at hl 0 rfl) ?_
  refine lv_iconst (v := 2) hx hb dL_law_810 (by decide) ?_
  refine fx_iadd hx hb dL_law_811 rfl zk_2 (by omega) (fun y8 ey8 ty8 => ?_)
  refine va_sld hx hb hX hbl hbA hS (fm_in (by omega)) dL_law_812 ?_
  refine lv_topi (fun x9 ex9 => ?_)
  have qx9 : x4 = x9 := by rw [ex9, ex4, ey8, ey3]
  clear ex9
  subst qx9
  refine vp_callSi (va_Run.run (va_runV (As := [.int x2, .int x4]) (rest := []) ⟨hx, hb, hml, hown, hts⟩ (fc_X12_word l D ad C nb M hI x2 x4) (cwV 2 hts gL_law_X12_word rfl rfl rfl (by decide +kernel) ⟨Nat.le_of_ble_eq_true rfl, Nat.le_of_ble_eq_true rfl⟩) (fm_preV hc hw hS kl_60 sh_60 rfl) rfl rfl hl.1 rfl (lv_room (Nat.le_of_ble_eq_true rfl)) dL_law_813 ⟨hk1, hs1⟩)) (fun r10 hr10 => ?_)
  refine lv_pop hx hb dL_law_816 rfl ?_
  refine lv_goto (tgt := 1835) hx hb dL_law_817 (by decide) ?_
  have hr90 : M.1 0 0 10 = M.1 60 0 16 := hrel.1
  have hr91 : M.1 0 0 9 = M.1 60 0 0 := hrel.2.1
  have hr92 : M.1 0 0 11 = M.1 60 0 21 := hrel.2.2.1
  have hr93 : (∀ j : Nat, j < nb → M.1 50 j 2 = M.1 111 0 j) := fun j hj => by exact hrel.2.2.2.1 j hj
  have hr94 : (∀ j : Nat, j < 4 → M.1 46 j 1 = M.1 175 0 j) := fun j hj => by exact hrel.2.2.2.2.1 j hj
  have hr95 : (∀ j : Nat, j < 4 → M.1 46 j 2 = M.1 176 0 j) := fun j hj => by exact hrel.2.2.2.2.2.1 j hj
  have hr96 : (∀ j : Nat, j < nb → M.1 50 j 0 = M.1 110 0 j) := fun j hj => by exact hrel.2.2.2.2.2.2.1 j hj
  have hr97 : (∀ j : Nat, j < nb → M.1 50 j 1 = M.1 112 0 j) := fun j hj => by exact hrel.2.2.2.2.2.2.2.1 j hj
  have hr98 : M.1 1 0 2 = M.1 60 0 5 := hrel.2.2.2.2.2.2.2.2.1
  have hs90 : (∀ s i : Nat, s < 4 → i < 40 → M.1 47 s i = M.1 177 0 (40 * s + i)) := fun s i hs hi => by exact hrel.2.2.2.2.2.2.2.2.2.1 s i hs hi
  have hs91_1 : rt_WN M := hrel.2.2.2.2.2.2.2.2.2.2.1
  have hs91 : rt_WN M := hs91_1
  have hs92_1 : rt_PC nb M := hrel.2.2.2.2.2.2.2.2.2.2.2.1
  have hs92 : rt_PC nb M := hs92_1
  have hs93_1 : rt_FB M := hrel.2.2.2.2.2.2.2.2.2.2.2.2.1
  have hs93 : rt_FB M := hs93_1
  have hs94 : (∀ j : Nat, j < nb → rt_nkM M j = rt_nmM M j) := by exact hrel.2.2.2.2.2.2.2.2.2.2.2.2.2
  have hrel9 : M.1 0 0 10 = M.1 60 0 16 ∧ M.1 0 0 9 = M.1 60 0 0 ∧ M.1 0 0 11 = M.1 60 0 21 ∧ (∀ j : Nat, j < nb → M.1 50 j 2 = M.1 111 0 j) ∧ (∀ j : Nat, j < 4 → M.1 46 j 1 = M.1 175 0 j) ∧ (∀ j : Nat, j < 4 → M.1 46 j 2 = M.1 176 0 j) ∧ (∀ j : Nat, j < nb → M.1 50 j 0 = M.1 110 0 j) ∧ (∀ j : Nat, j < nb → M.1 50 j 1 = M.1 112 0 j) ∧ M.1 1 0 2 = M.1 60 0 5 ∧ (∀ s i : Nat, s < 4 → i < 40 → M.1 47 s i = M.1 177 0 (40 * s + i)) ∧ rt_WN M ∧ rt_PC nb M ∧ rt_FB M ∧ (∀ j : Nat, j < nb → rt_nkM M j = rt_nmM M j) := ⟨hr90, hr91, hr92, hr93, hr94, hr95, hr96, hr97, hr98, hs90, hs91, hs92, hs93, hs94⟩
  exact kk M _ _ hw hI hS hrel9 ls (lv_sub hl [0, 1, 2, 3] rfl)
set_option maxHeartbeats 1000000 in
set_option maxRecDepth 20000 in
theorem lb_13 {p : Program} {l : Launch} {e : Env} {s : State} {m : MethodId} {below : List Frame} {meth : Method} {c : Code} {D : va_G} {ad : Nat → Nat → Nat} {C : Nat → Nat → ClassId} {nb : Nat} {M : fm_M} {b L : Nat} {xs : Nat → Int32} {H : Heap} {locs : List Loc} {kc sl : Nat} {i : Int32} (C0 : lw_At p s m meth c b L xs) (hkc : kc ≤ 10000) (hsl : sl ≤ 300000) (hc : fm_Cx D ad C nb (fun q : Nat => s.heap.size ≤ q) s) (hw : fm_at D ad C nb M H) (hI : fm_I nb ad M) (hS : va_S (fun q : Nat => s.heap.size ≤ q) s.heap H locs) (hi : 0 ≤ i.toInt ∧ i.toInt + 6 ≤ L) (hL : L ≤ 3072) (hrel : M.1 0 0 10 = M.1 60 0 16 ∧ M.1 0 0 9 = M.1 60 0 0 ∧ M.1 0 0 11 = M.1 60 0 21 ∧ (∀ j : Nat, j < nb → M.1 50 j 2 = M.1 111 0 j) ∧ (∀ j : Nat, j < 4 → M.1 46 j 1 = M.1 175 0 j) ∧ (∀ j : Nat, j < 4 → M.1 46 j 2 = M.1 176 0 j) ∧ (∀ j : Nat, j < nb → M.1 50 j 0 = M.1 110 0 j) ∧ (∀ j : Nat, j < nb → M.1 50 j 1 = M.1 112 0 j) ∧ M.1 1 0 2 = M.1 60 0 5 ∧ (∀ s i : Nat, s < 4 → i < 40 → M.1 47 s i = M.1 177 0 (40 * s + i)) ∧ rt_WN M ∧ rt_PC nb M ∧ rt_FB M ∧ (∀ j : Nat, j < nb → rt_nkM M j = rt_nmM M j)) (kk : ∀ (M1 : fm_M) (H1 : Heap) (locs1 : List Loc), fm_at D ad C nb M1 H1 → fm_I nb ad M1 → va_S (fun q : Nat => s.heap.size ≤ q) s.heap H1 locs1 → M1.1 0 0 10 = M1.1 60 0 16 ∧ M1.1 0 0 9 = M1.1 60 0 0 ∧ M1.1 0 0 11 = M1.1 60 0 21 ∧ (∀ j : Nat, j < nb → M1.1 50 j 2 = M1.1 111 0 j) ∧ (∀ j : Nat, j < 4 → M1.1 46 j 1 = M1.1 175 0 j) ∧ (∀ j : Nat, j < 4 → M1.1 46 j 2 = M1.1 176 0 j) ∧ (∀ j : Nat, j < nb → M1.1 50 j 0 = M1.1 110 0 j) ∧ (∀ j : Nat, j < nb → M1.1 50 j 1 = M1.1 112 0 j) ∧ M1.1 1 0 2 = M1.1 60 0 5 ∧ (∀ s i : Nat, s < 4 → i < 40 → M1.1 47 s i = M1.1 177 0 (40 * s + i)) ∧ rt_WN M1 ∧ rt_PC nb M1 ∧ rt_FB M1 ∧ (∀ j : Nat, j < nb → rt_nkM M1 j = rt_nmM M1 j) → ∀ ls : Array Slot, lv_has ls 4 [(3, .int i), (2, .ref (ad 60 0)), (1, .ref (ad 0 0)), (0, .ref b)] → W p l e room_1 s m #[Value.ref b] below meth c H1 locs1 kc sl (lw_Z below #[Value.ref b] s) (F0 m 1835 ls [])) (ls : Array Slot) (hl : lv_has ls 4 [(3, .int i), (2, .ref (ad 60 0)), (1, .ref (ad 0 0)), (0, .ref b)]) : W p l e room_1 s m #[Value.ref b] below meth c H locs kc sl (lw_Z below #[Value.ref b] s) (F0 m 820 ls []) := by
  obtain ⟨hx, hb, hr, hml, hown, hts, hX, hbl, hlocks, hgv⟩ := id C0
  have hown : s.vm.findClass RL = some m.cls := hown
  have hb : c.code = cL_law := hb
  have hbA : ¬ (fun q : Nat => s.heap.size ≤ q) b := Nat.not_le.mpr hbl
  have hk1 : kc + 0 ≤ room_1.cells := by show kc + 0 ≤ 600000; omega
  have hs1 : sl + 0 ≤ room_1.slots := by show sl + 0 ≤ 7302250; omega
  have hI0 := hI
  have hPC : rt_PC nb M := hrel.2.2.2.2.2.2.2.2.2.2.2.1
  have hCI : rt_CI nb M := hPC.1
  have hTI : rt_TI nb M := hPC.2.1
  refine lv_aload_n hx hb dL_law_820 rfl (lv_at hl 2 rfl) ?_
  refine lv_aload_n hx hb dL_law_821 rfl (lv_at hl 3 rfl) ?_
  refine lv_iload_n hx hb dL_law_822 rfl (lv_at hl 0 rfl) ?_
  refine lv_iconst (v := 1) hx hb dL_law_823 (by decide) ?_
  refine fx_iadd hx hb dL_law_824 rfl zk_1 (by omega) (fun y1 ey1 ty1 => ?_)
  refine va_sld hx hb hX hbl hbA hS (fm_in (by omega)) dL_law_825 ?_
  refine lv_topi (fun x2 ex2 => ?_)
  refine vp_callSi (va_Run.run (va_runV (As := [.int x2]) (rest := []) ⟨hx, hb, hml, hown, hts⟩ (fc_X11_isTrue l D ad C nb M hI x2) (cwV 1 hts gL_law_X11_isTrue rfl rfl rfl (by decide +kernel) ⟨Nat.le_of_ble_eq_true rfl, Nat.le_of_ble_eq_true rfl⟩) (fm_preV hc hw hS kl_0 sh_0 rfl) rfl rfl hl.1 rfl (lv_room (Nat.le_of_ble_eq_true rfl)) dL_law_826 ⟨hk1, hs1⟩)) (fun r3 hr3 => ?_)
  refine lv_pop hx hb dL_law_829 rfl ?_
  refine lv_aload_n hx hb dL_law_830 rfl (lv_at hl 1 rfl) ?_
  refine lv_aload_n hx hb dL_law_831 rfl (lv_at hl 3 rfl) ?_
  refine lv_iload_n hx hb dL_law_832 rfl (lv_at hl 0 rfl) ?_
  refine lv_iconst (v := 1) hx hb dL_law_833 (by decide) ?_
  refine fx_iadd hx hb dL_law_834 rfl zk_1 (by omega) (fun y4 ey4 ty4 => ?_)
  refine va_sld hx hb hX hbl hbA hS (fm_in (by omega)) dL_law_835 ?_
  refine lv_topi (fun x5 ex5 => ?_)
  have qx5 : x2 = x5 := by rw [ex5, ex2, ey4, ey1]
  clear ex5
  subst qx5
  refine vp_callSi (va_Run.run (va_runV (As := [.int x2]) (rest := []) ⟨hx, hb, hml, hown, hts⟩ (fc_X12_isTrue l D ad C nb M hI x2) (cwV 1 hts gL_law_X12_isTrue rfl rfl rfl (by decide +kernel) ⟨Nat.le_of_ble_eq_true rfl, Nat.le_of_ble_eq_true rfl⟩) (fm_preV hc hw hS kl_60 sh_60 rfl) rfl rfl hl.1 rfl (lv_room (Nat.le_of_ble_eq_true rfl)) dL_law_836 ⟨hk1, hs1⟩)) (fun r6 hr6 => ?_)
  refine lv_pop hx hb dL_law_839 rfl ?_
  refine lv_goto (tgt := 1835) hx hb dL_law_840 (by decide) ?_
  have hr90 : M.1 0 0 10 = M.1 60 0 16 := hrel.1
  have hr91 : M.1 0 0 9 = M.1 60 0 0 := hrel.2.1
  have hr92 : M.1 0 0 11 = M.1 60 0 21 := hrel.2.2.1
  have hr93 : (∀ j : Nat, j < nb → M.1 50 j 2 = M.1 111 0 j) := fun j hj => by exact hrel.2.2.2.1 j hj
  have hr94 : (∀ j : Nat, j < 4 → M.1 46 j 1 = M.1 175 0 j) := fun j hj => by exact hrel.2.2.2.2.1 j hj
  have hr95 : (∀ j : Nat, j < 4 → M.1 46 j 2 = M.1 176 0 j) := fun j hj => by exact hrel.2.2.2.2.2.1 j hj
  have hr96 : (∀ j : Nat, j < nb → M.1 50 j 0 = M.1 110 0 j) := fun j hj => by exact hrel.2.2.2.2.2.2.1 j hj
  have hr97 : (∀ j : Nat, j < nb → M.1 50 j 1 = M.1 112 0 j) := fun j hj => by exact hrel.2.2.2.2.2.2.2.1 j hj
  have hr98 : M.1 1 0 2 = M.1 60 0 5 := hrel.2.2.2.2.2.2.2.2.1
  have hs90 : (∀ s i : Nat, s < 4 → i < 40 → M.1 47 s i = M.1 177 0 (40 * s + i)) := fun s i hs hi => by exact hrel.2.2.2.2.2.2.2.2.2.1 s i hs hi
  have hs91_1 : rt_WN M := hrel.2.2.2.2.2.2.2.2.2.2.1
  have hs91 : rt_WN M := hs91_1
  have hs92_1 : rt_PC nb M := hrel.2.2.2.2.2.2.2.2.2.2.2.1
  have hs92 : rt_PC nb M := hs92_1
  have hs93_1 : rt_FB M := hrel.2.2.2.2.2.2.2.2.2.2.2.2.1
  have hs93 : rt_FB M := hs93_1
  have hs94 : (∀ j : Nat, j < nb → rt_nkM M j = rt_nmM M j) := by exact hrel.2.2.2.2.2.2.2.2.2.2.2.2.2
  have hrel9 : M.1 0 0 10 = M.1 60 0 16 ∧ M.1 0 0 9 = M.1 60 0 0 ∧ M.1 0 0 11 = M.1 60 0 21 ∧ (∀ j : Nat, j < nb → M.1 50 j 2 = M.1 111 0 j) ∧ (∀ j : Nat, j < 4 → M.1 46 j 1 = M.1 175 0 j) ∧ (∀ j : Nat, j < 4 → M.1 46 j 2 = M.1 176 0 j) ∧ (∀ j : Nat, j < nb → M.1 50 j 0 = M.1 110 0 j) ∧ (∀ j : Nat, j < nb → M.1 50 j 1 = M.1 112 0 j) ∧ M.1 1 0 2 = M.1 60 0 5 ∧ (∀ s i : Nat, s < 4 → i < 40 → M.1 47 s i = M.1 177 0 (40 * s + i)) ∧ rt_WN M ∧ rt_PC nb M ∧ rt_FB M ∧ (∀ j : Nat, j < nb → rt_nkM M j = rt_nmM M j) := ⟨hr90, hr91, hr92, hr93, hr94, hr95, hr96, hr97, hr98, hs90, hs91, hs92, hs93, hs94⟩
  exact kk M _ _ hw hI hS hrel9 ls (lv_sub hl [0, 1, 2, 3] rfl)
set_option maxHeartbeats 1000000 in
set_option maxRecDepth 20000 in
theorem lb_14 {p : Program} {l : Launch} {e : Env} {s : State} {m : MethodId} {below : List Frame} {meth : Method} {c : Code} {D : va_G} {ad : Nat → Nat → Nat} {C : Nat → Nat → ClassId} {nb : Nat} {M : fm_M} {b L : Nat} {xs : Nat → Int32} {H : Heap} {locs : List Loc} {kc sl : Nat} {i : Int32} (C0 : lw_At p s m meth c b L xs) (hkc : kc ≤ 10000) (hsl : sl ≤ 300000) (hc : fm_Cx D ad C nb (fun q : Nat => s.heap.size ≤ q) s) (hw : fm_at D ad C nb M H) (hI : fm_I nb ad M) (hS : va_S (fun q : Nat => s.heap.size ≤ q) s.heap H locs) (hi : 0 ≤ i.toInt ∧ i.toInt + 6 ≤ L) (hL : L ≤ 3072) (hrel : M.1 0 0 10 = M.1 60 0 16 ∧ M.1 0 0 9 = M.1 60 0 0 ∧ M.1 0 0 11 = M.1 60 0 21 ∧ (∀ j : Nat, j < nb → M.1 50 j 2 = M.1 111 0 j) ∧ (∀ j : Nat, j < 4 → M.1 46 j 1 = M.1 175 0 j) ∧ (∀ j : Nat, j < 4 → M.1 46 j 2 = M.1 176 0 j) ∧ (∀ j : Nat, j < nb → M.1 50 j 0 = M.1 110 0 j) ∧ (∀ j : Nat, j < nb → M.1 50 j 1 = M.1 112 0 j) ∧ M.1 1 0 2 = M.1 60 0 5 ∧ (∀ s i : Nat, s < 4 → i < 40 → M.1 47 s i = M.1 177 0 (40 * s + i)) ∧ rt_WN M ∧ rt_PC nb M ∧ rt_FB M ∧ (∀ j : Nat, j < nb → rt_nkM M j = rt_nmM M j)) (kk : ∀ (M1 : fm_M) (H1 : Heap) (locs1 : List Loc), fm_at D ad C nb M1 H1 → fm_I nb ad M1 → va_S (fun q : Nat => s.heap.size ≤ q) s.heap H1 locs1 → M1.1 0 0 10 = M1.1 60 0 16 ∧ M1.1 0 0 9 = M1.1 60 0 0 ∧ M1.1 0 0 11 = M1.1 60 0 21 ∧ (∀ j : Nat, j < nb → M1.1 50 j 2 = M1.1 111 0 j) ∧ (∀ j : Nat, j < 4 → M1.1 46 j 1 = M1.1 175 0 j) ∧ (∀ j : Nat, j < 4 → M1.1 46 j 2 = M1.1 176 0 j) ∧ (∀ j : Nat, j < nb → M1.1 50 j 0 = M1.1 110 0 j) ∧ (∀ j : Nat, j < nb → M1.1 50 j 1 = M1.1 112 0 j) ∧ M1.1 1 0 2 = M1.1 60 0 5 ∧ (∀ s i : Nat, s < 4 → i < 40 → M1.1 47 s i = M1.1 177 0 (40 * s + i)) ∧ rt_WN M1 ∧ rt_PC nb M1 ∧ rt_FB M1 ∧ (∀ j : Nat, j < nb → rt_nkM M1 j = rt_nmM M1 j) → ∀ ls : Array Slot, lv_has ls 4 [(3, .int i), (2, .ref (ad 60 0)), (1, .ref (ad 0 0)), (0, .ref b)] → W p l e room_1 s m #[Value.ref b] below meth c H1 locs1 kc sl (lw_Z below #[Value.ref b] s) (F0 m 1835 ls [])) (ls : Array Slot) (hl : lv_has ls 4 [(3, .int i), (2, .ref (ad 60 0)), (1, .ref (ad 0 0)), (0, .ref b)]) : W p l e room_1 s m #[Value.ref b] below meth c H locs kc sl (lw_Z below #[Value.ref b] s) (F0 m 843 ls []) := by
  obtain ⟨hx, hb, hr, hml, hown, hts, hX, hbl, hlocks, hgv⟩ := id C0
  have hown : s.vm.findClass RL = some m.cls := hown
  have hb : c.code = cL_law := hb
  have hbA : ¬ (fun q : Nat => s.heap.size ≤ q) b := Nat.not_le.mpr hbl
  have hk1 : kc + 0 ≤ room_1.cells := by show kc + 0 ≤ 600000; omega
  have hs1 : sl + 0 ≤ room_1.slots := by show sl + 0 ≤ 7302250; omega
  have hI0 := hI
  have hPC : rt_PC nb M := hrel.2.2.2.2.2.2.2.2.2.2.2.1
  have hCI : rt_CI nb M := hPC.1
  have hTI : rt_TI nb M := hPC.2.1
  refine lv_aload_n hx hb dL_law_843 rfl (lv_at hl 2 rfl) ?_
  refine lv_aload_n hx hb dL_law_844 rfl (lv_at hl 3 rfl) ?_
  refine lv_iload_n hx hb dL_law_845 rfl (lv_at hl 0 rfl) ?_
  refine lv_iconst (v := 1) hx hb dL_law_846 (by decide) ?_
  refine fx_iadd hx hb dL_law_847 rfl zk_1 (by omega) (fun y1 ey1 ty1 => ?_)
  refine va_sld hx hb hX hbl hbA hS (fm_in (by omega)) dL_law_848 ?_
  refine lv_topi (fun x2 ex2 => ?_)
  refine fx_i2l hx hb dL_law_849 rfl (fun y3 ey3 ty3 => ?_)
  refine lv_bipush (v := 32) hx hb dL_law_850 (by decide) ?_
  refine lv_lshl (v := y3 <<< ((32 : Int32).toInt64 &&& 63)) hx hb dL_law_852 rfl ?_
  refine lv_topl (fun y4 ey4 => ?_)
  refine lv_aload_n hx hb dL_law_853 rfl (lv_at hl 3 rfl) ?_
  refine lv_iload_n hx hb dL_law_854 rfl (lv_at hl 0 rfl) ?_
  refine lv_iconst (v := 2) hx hb dL_law_855 (by decide) ?_
  refine fx_iadd hx hb dL_law_856 rfl zk_2 (by omega) (fun y5 ey5 ty5 => ?_)
  refine va_sld hx hb hX hbl hbA hS (fm_in (by omega)) dL_law_857 ?_
  refine lv_topi (fun x6 ex6 => ?_)
  refine fx_i2l hx hb dL_law_858 rfl (fun y7 ey7 ty7 => ?_)
  refine lv_ldc2 (v := 4294967295) hx hb hown (hts (.constantLong RL 42 (4294967295)) (rt_pc_in 7 _ (List.mem_of_getElem? (i := 231) (by decide +kernel)))) dL_law_859 ?_
  refine lv_land hx hb dL_law_862 ?_
  refine lv_topl (fun y8 ey8 => ?_)
  refine lv_lor hx hb dL_law_863 ?_
  refine lv_topl (fun y9 ey9 => ?_)
  refine fm_ci (va_runV (As := [.long y9]) (rest := []) ⟨hx, hb, hml, hown, hts⟩ (fc_X11_lane l D ad C nb M hI y9) (cwV 1 hts gL_law_X11_lane rfl rfl rfl (by decide +kernel) ⟨Nat.le_of_ble_eq_true rfl, Nat.le_of_ble_eq_true rfl⟩) (fm_preV hc hw hS kl_0 sh_0 rfl) rfl rfl hl.1 rfl (lv_room (Nat.le_of_ble_eq_true rfl)) dL_law_864 ⟨hk1, hs1⟩) hS hc (fun r10 M11 H locs hr10 hw hS => ?_)
  obtain ⟨hI, hEM11, hr10⟩ := hr10
  refine lv_pop hx hb dL_law_867 rfl ?_
  refine lv_aload_n hx hb dL_law_868 rfl (lv_at hl 1 rfl) ?_
  refine lv_aload_n hx hb dL_law_869 rfl (lv_at hl 3 rfl) ?_
  refine lv_iload_n hx hb dL_law_870 rfl (lv_at hl 0 rfl) ?_
  refine lv_iconst (v := 1) hx hb dL_law_871 (by decide) ?_
  refine fx_iadd hx hb dL_law_872 rfl zk_1 (by omega) (fun y12 ey12 ty12 => ?_)
  refine va_sld hx hb hX hbl hbA hS (fm_in (by omega)) dL_law_873 ?_
  refine lv_topi (fun x13 ex13 => ?_)
  have qx13 : x2 = x13 := by rw [ex13, ex2, ey12, ey1]
  clear ex13
  subst qx13
  refine fx_i2l hx hb dL_law_874 rfl (fun y14 ey14 ty14 => ?_)
  refine lv_bipush (v := 32) hx hb dL_law_875 (by decide) ?_
  refine lv_lshl (v := y14 <<< ((32 : Int32).toInt64 &&& 63)) hx hb dL_law_877 rfl ?_
  refine lv_topl (fun y15 ey15 => ?_)
  refine lv_aload_n hx hb dL_law_878 rfl (lv_at hl 3 rfl) ?_
  refine lv_iload_n hx hb dL_law_879 rfl (lv_at hl 0 rfl) ?_
  refine lv_iconst (v := 2) hx hb dL_law_880 (by decide) ?_
  refine fx_iadd hx hb dL_law_881 rfl zk_2 (by omega) (fun y16 ey16 ty16 => ?_)
  refine va_sld hx hb hX hbl hbA hS (fm_in (by omega)) dL_law_882 ?_
  refine lv_topi (fun x17 ex17 => ?_)
  have qx17 : x6 = x17 := by rw [ex17, ex6, ey16, ey5]
  clear ex17
  subst qx17
  refine fx_i2l hx hb dL_law_883 rfl (fun y18 ey18 ty18 => ?_)
  refine lv_ldc2 (v := 4294967295) hx hb hown (hts (.constantLong RL 42 (4294967295)) (rt_pc_in 7 _ (List.mem_of_getElem? (i := 231) (by decide +kernel)))) dL_law_884 ?_
  refine lv_land hx hb dL_law_887 ?_
  refine lv_topl (fun y19 ey19 => ?_)
  refine lv_lor hx hb dL_law_888 ?_
  refine lv_topl (fun y20 ey20 => ?_)
  have qy20 : y9 = y20 := by rw [ey9, ey4, ey3, ey8, ey7, ey20, ey15, ey14, ey19, ey18]
  clear ey20
  subst qy20
  refine fm_ci (va_runV (As := [.long y9]) (rest := []) ⟨hx, hb, hml, hown, hts⟩ (fc_X12_lane l D ad C nb M11 hI y9) (cwV 1 hts gL_law_X12_lane rfl rfl rfl (by decide +kernel) ⟨Nat.le_of_ble_eq_true rfl, Nat.le_of_ble_eq_true rfl⟩) (fm_preV hc hw hS kl_60 sh_60 rfl) rfl rfl hl.1 rfl (lv_room (Nat.le_of_ble_eq_true rfl)) dL_law_889 ⟨hk1, hs1⟩) hS hc (fun r21 M22 H locs hr21 hw hS => ?_)
  obtain ⟨hI, hEM22, hr21⟩ := hr21
  refine lv_pop hx hb dL_law_892 rfl ?_
  refine lv_goto (tgt := 1835) hx hb dL_law_893 (by decide) ?_
  have hr90 : M22.1 0 0 10 = M22.1 60 0 16 := by rw [(hEM22 0 0 10 (by decide)).1, (hEM11 0 0 10 (by decide)).1, (hEM22 60 0 16 (by decide)).1, (hEM11 60 0 16 (by decide)).1]; exact hrel.1
  have hr91 : M22.1 0 0 9 = M22.1 60 0 0 := by rw [(hEM22 0 0 9 (by decide)).1, (hEM11 0 0 9 (by decide)).1, (hEM22 60 0 0 (by decide)).1, (hEM11 60 0 0 (by decide)).1]; exact hrel.2.1
  have hr92 : M22.1 0 0 11 = M22.1 60 0 21 := by rw [(hEM22 0 0 11 (by decide)).1, (hEM11 0 0 11 (by decide)).1, (hEM22 60 0 21 (by decide)).1, (hEM11 60 0 21 (by decide)).1]; exact hrel.2.2.1
  have hr93 : (∀ j : Nat, j < nb → M22.1 50 j 2 = M22.1 111 0 j) := fun j hj => by rw [(hEM22 50 j 2 (by decide)).1, (hEM11 50 j 2 (by decide)).1, (hEM22 111 0 j (by rw [cd_111]; decide)).1, (hEM11 111 0 j (by rw [cd_111]; decide)).1]; exact hrel.2.2.2.1 j hj
  have hr94 : (∀ j : Nat, j < 4 → M22.1 46 j 1 = M22.1 175 0 j) := fun j hj => by rw [(hEM22 46 j 1 (by decide)).1, (hEM11 46 j 1 (by decide)).1, (hEM22 175 0 j (by rw [cd_175]; decide)).1, (hEM11 175 0 j (by rw [cd_175]; decide)).1]; exact hrel.2.2.2.2.1 j hj
  have hr95 : (∀ j : Nat, j < 4 → M22.1 46 j 2 = M22.1 176 0 j) := fun j hj => by rw [(hEM22 46 j 2 (by decide)).1, (hEM11 46 j 2 (by decide)).1, (hEM22 176 0 j (by rw [cd_176]; decide)).1, (hEM11 176 0 j (by rw [cd_176]; decide)).1]; exact hrel.2.2.2.2.2.1 j hj
  have hr96 : (∀ j : Nat, j < nb → M22.1 50 j 0 = M22.1 110 0 j) := fun j hj => by rw [(hEM22 50 j 0 (by decide)).1, (hEM11 50 j 0 (by decide)).1, (hEM22 110 0 j (by rw [cd_110]; decide)).1, (hEM11 110 0 j (by rw [cd_110]; decide)).1]; exact hrel.2.2.2.2.2.2.1 j hj
  have hr97 : (∀ j : Nat, j < nb → M22.1 50 j 1 = M22.1 112 0 j) := fun j hj => by rw [(hEM22 50 j 1 (by decide)).1, (hEM11 50 j 1 (by decide)).1, (hEM22 112 0 j (by rw [cd_112]; decide)).1, (hEM11 112 0 j (by rw [cd_112]; decide)).1]; exact hrel.2.2.2.2.2.2.2.1 j hj
  have hr98 : M22.1 1 0 2 = M22.1 60 0 5 := by rw [(hEM22 1 0 2 (by decide)).1, (hEM11 1 0 2 (by decide)).1, (hEM22 60 0 5 (by decide)).1, (hEM11 60 0 5 (by decide)).1]; exact hrel.2.2.2.2.2.2.2.2.1
  have hs90 : (∀ s i : Nat, s < 4 → i < 40 → M22.1 47 s i = M22.1 177 0 (40 * s + i)) := fun s i hs hi => by rw [(hEM22 47 s i (by rw [cd_47]; decide)).1, (hEM11 47 s i (by rw [cd_47]; decide)).1, (hEM22 177 0 (40 * s + i) (by rw [cd_177]; decide)).1, (hEM11 177 0 (40 * s + i) (by rw [cd_177]; decide)).1]; exact hrel.2.2.2.2.2.2.2.2.2.1 s i hs hi
  have hs91_1 : rt_WN M11 := rt_WN_same hEM11 (by decide) hrel.2.2.2.2.2.2.2.2.2.2.1
  have hs91 : rt_WN M22 := rt_WN_same hEM22 (by decide) hs91_1
  have hs92_1 : rt_PC nb M11 := rt_PC_same hEM11 (by decide) hrel.2.2.2.2.2.2.2.2.2.2.2.1
  have hs92 : rt_PC nb M22 := rt_PC_same hEM22 (by decide) hs92_1
  have hs93_1 : rt_FB M11 := rt_FB_same hEM11 (by decide) hrel.2.2.2.2.2.2.2.2.2.2.2.2.1
  have hs93 : rt_FB M22 := rt_FB_same hEM22 (by decide) hs93_1
  have hs94 : (∀ j : Nat, j < nb → rt_nkM M22 j = rt_nmM M22 j) := by rw [rt_nkM_same hEM22 (by decide), rt_nkM_same hEM11 (by decide), rt_nmM_same hEM22 (by decide), rt_nmM_same hEM11 (by decide)]; exact hrel.2.2.2.2.2.2.2.2.2.2.2.2.2
  have hrel9 : M22.1 0 0 10 = M22.1 60 0 16 ∧ M22.1 0 0 9 = M22.1 60 0 0 ∧ M22.1 0 0 11 = M22.1 60 0 21 ∧ (∀ j : Nat, j < nb → M22.1 50 j 2 = M22.1 111 0 j) ∧ (∀ j : Nat, j < 4 → M22.1 46 j 1 = M22.1 175 0 j) ∧ (∀ j : Nat, j < 4 → M22.1 46 j 2 = M22.1 176 0 j) ∧ (∀ j : Nat, j < nb → M22.1 50 j 0 = M22.1 110 0 j) ∧ (∀ j : Nat, j < nb → M22.1 50 j 1 = M22.1 112 0 j) ∧ M22.1 1 0 2 = M22.1 60 0 5 ∧ (∀ s i : Nat, s < 4 → i < 40 → M22.1 47 s i = M22.1 177 0 (40 * s + i)) ∧ rt_WN M22 ∧ rt_PC nb M22 ∧ rt_FB M22 ∧ (∀ j : Nat, j < nb → rt_nkM M22 j = rt_nmM M22 j) := ⟨hr90, hr91, hr92, hr93, hr94, hr95, hr96, hr97, hr98, hs90, hs91, hs92, hs93, hs94⟩
  exact kk M22 _ _ hw hI hS hrel9 ls (lv_sub hl [0, 1, 2, 3] rfl)
set_option maxHeartbeats 1000000 in
set_option maxRecDepth 20000 in
theorem lb_15 {p : Program} {l : Launch} {e : Env} {s : State} {m : MethodId} {below : List Frame} {meth : Method} {c : Code} {D : va_G} {ad : Nat → Nat → Nat} {C : Nat → Nat → ClassId} {nb : Nat} {M : fm_M} {b L : Nat} {xs : Nat → Int32} {H : Heap} {locs : List Loc} {kc sl : Nat} {i : Int32} (C0 : lw_At p s m meth c b L xs) (hkc : kc ≤ 10000) (hsl : sl ≤ 300000) (hc : fm_Cx D ad C nb (fun q : Nat => s.heap.size ≤ q) s) (hw : fm_at D ad C nb M H) (hI : fm_I nb ad M) (hS : va_S (fun q : Nat => s.heap.size ≤ q) s.heap H locs) (hi : 0 ≤ i.toInt ∧ i.toInt + 6 ≤ L) (hL : L ≤ 3072) (hrel : M.1 0 0 10 = M.1 60 0 16 ∧ M.1 0 0 9 = M.1 60 0 0 ∧ M.1 0 0 11 = M.1 60 0 21 ∧ (∀ j : Nat, j < nb → M.1 50 j 2 = M.1 111 0 j) ∧ (∀ j : Nat, j < 4 → M.1 46 j 1 = M.1 175 0 j) ∧ (∀ j : Nat, j < 4 → M.1 46 j 2 = M.1 176 0 j) ∧ (∀ j : Nat, j < nb → M.1 50 j 0 = M.1 110 0 j) ∧ (∀ j : Nat, j < nb → M.1 50 j 1 = M.1 112 0 j) ∧ M.1 1 0 2 = M.1 60 0 5 ∧ (∀ s i : Nat, s < 4 → i < 40 → M.1 47 s i = M.1 177 0 (40 * s + i)) ∧ rt_WN M ∧ rt_PC nb M ∧ rt_FB M ∧ (∀ j : Nat, j < nb → rt_nkM M j = rt_nmM M j)) (kk : ∀ (M1 : fm_M) (H1 : Heap) (locs1 : List Loc), fm_at D ad C nb M1 H1 → fm_I nb ad M1 → va_S (fun q : Nat => s.heap.size ≤ q) s.heap H1 locs1 → M1.1 0 0 10 = M1.1 60 0 16 ∧ M1.1 0 0 9 = M1.1 60 0 0 ∧ M1.1 0 0 11 = M1.1 60 0 21 ∧ (∀ j : Nat, j < nb → M1.1 50 j 2 = M1.1 111 0 j) ∧ (∀ j : Nat, j < 4 → M1.1 46 j 1 = M1.1 175 0 j) ∧ (∀ j : Nat, j < 4 → M1.1 46 j 2 = M1.1 176 0 j) ∧ (∀ j : Nat, j < nb → M1.1 50 j 0 = M1.1 110 0 j) ∧ (∀ j : Nat, j < nb → M1.1 50 j 1 = M1.1 112 0 j) ∧ M1.1 1 0 2 = M1.1 60 0 5 ∧ (∀ s i : Nat, s < 4 → i < 40 → M1.1 47 s i = M1.1 177 0 (40 * s + i)) ∧ rt_WN M1 ∧ rt_PC nb M1 ∧ rt_FB M1 ∧ (∀ j : Nat, j < nb → rt_nkM M1 j = rt_nmM M1 j) → ∀ ls : Array Slot, lv_has ls 4 [(3, .int i), (2, .ref (ad 60 0)), (1, .ref (ad 0 0)), (0, .ref b)] → W p l e room_1 s m #[Value.ref b] below meth c H1 locs1 kc sl (lw_Z below #[Value.ref b] s) (F0 m 1835 ls [])) (ls : Array Slot) (hl : lv_has ls 4 [(3, .int i), (2, .ref (ad 60 0)), (1, .ref (ad 0 0)), (0, .ref b)]) : W p l e room_1 s m #[Value.ref b] below meth c H locs kc sl (lw_Z below #[Value.ref b] s) (F0 m 896 ls []) := by
  obtain ⟨hx, hb, hr, hml, hown, hts, hX, hbl, hlocks, hgv⟩ := id C0
  have hown : s.vm.findClass RL = some m.cls := hown
  have hb : c.code = cL_law := hb
  have hbA : ¬ (fun q : Nat => s.heap.size ≤ q) b := Nat.not_le.mpr hbl
  have hk1 : kc + 0 ≤ room_1.cells := by show kc + 0 ≤ 600000; omega
  have hs1 : sl + 0 ≤ room_1.slots := by show sl + 0 ≤ 7302250; omega
  have hI0 := hI
  have hPC : rt_PC nb M := hrel.2.2.2.2.2.2.2.2.2.2.2.1
  have hCI : rt_CI nb M := hPC.1
  have hTI : rt_TI nb M := hPC.2.1
  refine lv_aload_n hx hb dL_law_896 rfl (lv_at hl 2 rfl) ?_
  refine lv_aload_n hx hb dL_law_897 rfl (lv_at hl 3 rfl) ?_
  refine lv_iload_n hx hb dL_law_898 rfl (lv_at hl 0 rfl) ?_
  refine lv_iconst (v := 1) hx hb dL_law_899 (by decide) ?_
  refine fx_iadd hx hb dL_law_900 rfl zk_1 (by omega) (fun y1 ey1 ty1 => ?_)
  refine va_sld hx hb hX hbl hbA hS (fm_in (by omega)) dL_law_901 ?_
  refine lv_topi (fun x2 ex2 => ?_)
  refine lv_aload_n hx hb dL_law_902 rfl (lv_at hl 3 rfl) ?_
  refine lv_iload_n hx hb dL_law_903 rfl (lv_at hl 0 rfl) ?_
  refine lv_iconst (v := 2) hx hb dL_law_904 (by decide) ?_
  refine fx_iadd hx hb dL_law_905 rfl zk_2 (by omega) (fun y3 ey3 ty3 => ?_)
  refine va_sld hx hb hX hbl hbA hS (fm_in (by omega)) dL_law_906 ?_
  refine lv_topi (fun x4 ex4 => ?_)
  refine lv_aload_n hx hb dL_law_907 rfl (lv_at hl 3 rfl) ?_
  refine lv_iload_n hx hb dL_law_908 rfl (lv_at hl 0 rfl) ?_
  refine lv_iconst (v := 3) hx hb dL_law_909 (by decide) ?_
  refine fx_iadd hx hb dL_law_910 rfl zk_3 (by omega) (fun y5 ey5 ty5 => ?_)
  refine va_sld hx hb hX hbl hbA hS (fm_in (by omega)) dL_law_911 ?_
  refine lv_topi (fun x6 ex6 => ?_)
  refine fm_ci (va_runV (As := [.int x2, .int x4, .int x6]) (rest := []) ⟨hx, hb, hml, hown, hts⟩ (fc_X11_flown l D ad C nb M hI x2 x4 x6) (cwV 3 hts gL_law_X11_flown rfl rfl rfl (by decide +kernel) ⟨Nat.le_of_ble_eq_true rfl, Nat.le_of_ble_eq_true rfl⟩) (fm_preV hc hw hS kl_0 sh_0 rfl) rfl rfl hl.1 rfl (lv_room (Nat.le_of_ble_eq_true rfl)) dL_law_912 ⟨hk1, hs1⟩) hS hc (fun r7 M8 H locs hr7 hw hS => ?_)
  obtain ⟨hI, hEM8, hr7⟩ := hr7
  refine lv_pop hx hb dL_law_915 rfl ?_
  refine lv_aload_n hx hb dL_law_916 rfl (lv_at hl 1 rfl) ?_
  refine lv_aload_n hx hb dL_law_917 rfl (lv_at hl 3 rfl) ?_
  refine lv_iload_n hx hb dL_law_918 rfl (lv_at hl 0 rfl) ?_
  refine lv_iconst (v := 1) hx hb dL_law_919 (by decide) ?_
  refine fx_iadd hx hb dL_law_920 rfl zk_1 (by omega) (fun y9 ey9 ty9 => ?_)
  refine va_sld hx hb hX hbl hbA hS (fm_in (by omega)) dL_law_921 ?_
  refine lv_topi (fun x10 ex10 => ?_)
  have qx10 : x2 = x10 := by rw [ex10, ex2, ey9, ey1]
  clear ex10
  subst qx10
  refine lv_aload_n hx hb dL_law_922 rfl (lv_at hl 3 rfl) ?_
  refine lv_iload_n hx hb dL_law_923 rfl (lv_at hl 0 rfl) ?_
  refine lv_iconst (v := 2) hx hb dL_law_924 (by decide) ?_
  refine fx_iadd hx hb dL_law_925 rfl zk_2 (by omega) (fun y11 ey11 ty11 => ?_)
  refine va_sld hx hb hX hbl hbA hS (fm_in (by omega)) dL_law_926 ?_
  refine lv_topi (fun x12 ex12 => ?_)
  have qx12 : x4 = x12 := by rw [ex12, ex4, ey11, ey3]
  clear ex12
  subst qx12
  refine lv_aload_n hx hb dL_law_927 rfl (lv_at hl 3 rfl) ?_
  refine lv_iload_n hx hb dL_law_928 rfl (lv_at hl 0 rfl) ?_
  refine lv_iconst (v := 3) hx hb dL_law_929 (by decide) ?_
  refine fx_iadd hx hb dL_law_930 rfl zk_3 (by omega) (fun y13 ey13 ty13 => ?_)
  refine va_sld hx hb hX hbl hbA hS (fm_in (by omega)) dL_law_931 ?_
  refine lv_topi (fun x14 ex14 => ?_)
  have qx14 : x6 = x14 := by rw [ex14, ex6, ey13, ey5]
  clear ex14
  subst qx14
  refine fm_ci (va_runV (As := [.int x2, .int x4, .int x6]) (rest := []) ⟨hx, hb, hml, hown, hts⟩ (fc_X12_flown l D ad C nb M8 hI x2 x4 x6) (cwV 3 hts gL_law_X12_flown rfl rfl rfl (by decide +kernel) ⟨Nat.le_of_ble_eq_true rfl, Nat.le_of_ble_eq_true rfl⟩) (fm_preV hc hw hS kl_60 sh_60 rfl) rfl rfl hl.1 rfl (lv_room (Nat.le_of_ble_eq_true rfl)) dL_law_932 ⟨hk1, hs1⟩) hS hc (fun r15 M16 H locs hr15 hw hS => ?_)
  obtain ⟨hI, hEM16, hr15⟩ := hr15
  refine lv_pop hx hb dL_law_935 rfl ?_
  refine lv_goto (tgt := 1835) hx hb dL_law_936 (by decide) ?_
  have hr90 : M16.1 0 0 10 = M16.1 60 0 16 := by rw [(hEM16 0 0 10 (by decide)).1, (hEM8 0 0 10 (by decide)).1, (hEM16 60 0 16 (by decide)).1, (hEM8 60 0 16 (by decide)).1]; exact hrel.1
  have hr91 : M16.1 0 0 9 = M16.1 60 0 0 := by rw [(hEM16 0 0 9 (by decide)).1, (hEM8 0 0 9 (by decide)).1, (hEM16 60 0 0 (by decide)).1, (hEM8 60 0 0 (by decide)).1]; exact hrel.2.1
  have hr92 : M16.1 0 0 11 = M16.1 60 0 21 := by rw [(hEM16 0 0 11 (by decide)).1, (hEM8 0 0 11 (by decide)).1, (hEM16 60 0 21 (by decide)).1, (hEM8 60 0 21 (by decide)).1]; exact hrel.2.2.1
  have hr93 : (∀ j : Nat, j < nb → M16.1 50 j 2 = M16.1 111 0 j) := fun j hj => by rw [(hEM16 50 j 2 (by decide)).1, (hEM8 50 j 2 (by decide)).1, (hEM16 111 0 j (by rw [cd_111]; decide)).1, (hEM8 111 0 j (by rw [cd_111]; decide)).1]; exact hrel.2.2.2.1 j hj
  have hr94 : (∀ j : Nat, j < 4 → M16.1 46 j 1 = M16.1 175 0 j) := fun j hj => by rw [(hEM16 46 j 1 (by decide)).1, (hEM8 46 j 1 (by decide)).1, (hEM16 175 0 j (by rw [cd_175]; decide)).1, (hEM8 175 0 j (by rw [cd_175]; decide)).1]; exact hrel.2.2.2.2.1 j hj
  have hr95 : (∀ j : Nat, j < 4 → M16.1 46 j 2 = M16.1 176 0 j) := fun j hj => by rw [(hEM16 46 j 2 (by decide)).1, (hEM8 46 j 2 (by decide)).1, (hEM16 176 0 j (by rw [cd_176]; decide)).1, (hEM8 176 0 j (by rw [cd_176]; decide)).1]; exact hrel.2.2.2.2.2.1 j hj
  have hr96 : (∀ j : Nat, j < nb → M16.1 50 j 0 = M16.1 110 0 j) := fun j hj => by rw [(hEM16 50 j 0 (by decide)).1, (hEM8 50 j 0 (by decide)).1, (hEM16 110 0 j (by rw [cd_110]; decide)).1, (hEM8 110 0 j (by rw [cd_110]; decide)).1]; exact hrel.2.2.2.2.2.2.1 j hj
  have hr97 : (∀ j : Nat, j < nb → M16.1 50 j 1 = M16.1 112 0 j) := fun j hj => by rw [(hEM16 50 j 1 (by decide)).1, (hEM8 50 j 1 (by decide)).1, (hEM16 112 0 j (by rw [cd_112]; decide)).1, (hEM8 112 0 j (by rw [cd_112]; decide)).1]; exact hrel.2.2.2.2.2.2.2.1 j hj
  have hr98 : M16.1 1 0 2 = M16.1 60 0 5 := by rw [(hEM16 1 0 2 (by decide)).1, (hEM8 1 0 2 (by decide)).1, (hEM16 60 0 5 (by decide)).1, (hEM8 60 0 5 (by decide)).1]; exact hrel.2.2.2.2.2.2.2.2.1
  have hs90 : (∀ s i : Nat, s < 4 → i < 40 → M16.1 47 s i = M16.1 177 0 (40 * s + i)) := fun s i hs hi => by rw [(hEM16 47 s i (by rw [cd_47]; decide)).1, (hEM8 47 s i (by rw [cd_47]; decide)).1, (hEM16 177 0 (40 * s + i) (by rw [cd_177]; decide)).1, (hEM8 177 0 (40 * s + i) (by rw [cd_177]; decide)).1]; exact hrel.2.2.2.2.2.2.2.2.2.1 s i hs hi
  have hs91_1 : rt_WN M8 := rt_WN_same hEM8 (by decide) hrel.2.2.2.2.2.2.2.2.2.2.1
  have hs91 : rt_WN M16 := rt_WN_same hEM16 (by decide) hs91_1
  have hs92_1 : rt_PC nb M8 := rt_PC_same hEM8 (by decide) hrel.2.2.2.2.2.2.2.2.2.2.2.1
  have hs92 : rt_PC nb M16 := rt_PC_same hEM16 (by decide) hs92_1
  have hs93_1 : rt_FB M8 := rt_FB_same hEM8 (by decide) hrel.2.2.2.2.2.2.2.2.2.2.2.2.1
  have hs93 : rt_FB M16 := rt_FB_same hEM16 (by decide) hs93_1
  have hs94 : (∀ j : Nat, j < nb → rt_nkM M16 j = rt_nmM M16 j) := by rw [rt_nkM_same hEM16 (by decide), rt_nkM_same hEM8 (by decide), rt_nmM_same hEM16 (by decide), rt_nmM_same hEM8 (by decide)]; exact hrel.2.2.2.2.2.2.2.2.2.2.2.2.2
  have hrel9 : M16.1 0 0 10 = M16.1 60 0 16 ∧ M16.1 0 0 9 = M16.1 60 0 0 ∧ M16.1 0 0 11 = M16.1 60 0 21 ∧ (∀ j : Nat, j < nb → M16.1 50 j 2 = M16.1 111 0 j) ∧ (∀ j : Nat, j < 4 → M16.1 46 j 1 = M16.1 175 0 j) ∧ (∀ j : Nat, j < 4 → M16.1 46 j 2 = M16.1 176 0 j) ∧ (∀ j : Nat, j < nb → M16.1 50 j 0 = M16.1 110 0 j) ∧ (∀ j : Nat, j < nb → M16.1 50 j 1 = M16.1 112 0 j) ∧ M16.1 1 0 2 = M16.1 60 0 5 ∧ (∀ s i : Nat, s < 4 → i < 40 → M16.1 47 s i = M16.1 177 0 (40 * s + i)) ∧ rt_WN M16 ∧ rt_PC nb M16 ∧ rt_FB M16 ∧ (∀ j : Nat, j < nb → rt_nkM M16 j = rt_nmM M16 j) := ⟨hr90, hr91, hr92, hr93, hr94, hr95, hr96, hr97, hr98, hs90, hs91, hs92, hs93, hs94⟩
  exact kk M16 _ _ hw hI hS hrel9 ls (lv_sub hl [0, 1, 2, 3] rfl)
set_option maxHeartbeats 1000000 in
set_option maxRecDepth 20000 in
theorem lb_16 {p : Program} {l : Launch} {e : Env} {s : State} {m : MethodId} {below : List Frame} {meth : Method} {c : Code} {D : va_G} {ad : Nat → Nat → Nat} {C : Nat → Nat → ClassId} {nb : Nat} {M : fm_M} {b L : Nat} {xs : Nat → Int32} {H : Heap} {locs : List Loc} {kc sl : Nat} {i : Int32} (C0 : lw_At p s m meth c b L xs) (hkc : kc ≤ 10000) (hsl : sl ≤ 300000) (hc : fm_Cx D ad C nb (fun q : Nat => s.heap.size ≤ q) s) (hw : fm_at D ad C nb M H) (hI : fm_I nb ad M) (hS : va_S (fun q : Nat => s.heap.size ≤ q) s.heap H locs) (hi : 0 ≤ i.toInt ∧ i.toInt + 6 ≤ L) (hL : L ≤ 3072) (hrel : M.1 0 0 10 = M.1 60 0 16 ∧ M.1 0 0 9 = M.1 60 0 0 ∧ M.1 0 0 11 = M.1 60 0 21 ∧ (∀ j : Nat, j < nb → M.1 50 j 2 = M.1 111 0 j) ∧ (∀ j : Nat, j < 4 → M.1 46 j 1 = M.1 175 0 j) ∧ (∀ j : Nat, j < 4 → M.1 46 j 2 = M.1 176 0 j) ∧ (∀ j : Nat, j < nb → M.1 50 j 0 = M.1 110 0 j) ∧ (∀ j : Nat, j < nb → M.1 50 j 1 = M.1 112 0 j) ∧ M.1 1 0 2 = M.1 60 0 5 ∧ (∀ s i : Nat, s < 4 → i < 40 → M.1 47 s i = M.1 177 0 (40 * s + i)) ∧ rt_WN M ∧ rt_PC nb M ∧ rt_FB M ∧ (∀ j : Nat, j < nb → rt_nkM M j = rt_nmM M j)) (kk : ∀ (M1 : fm_M) (H1 : Heap) (locs1 : List Loc), fm_at D ad C nb M1 H1 → fm_I nb ad M1 → va_S (fun q : Nat => s.heap.size ≤ q) s.heap H1 locs1 → M1.1 0 0 10 = M1.1 60 0 16 ∧ M1.1 0 0 9 = M1.1 60 0 0 ∧ M1.1 0 0 11 = M1.1 60 0 21 ∧ (∀ j : Nat, j < nb → M1.1 50 j 2 = M1.1 111 0 j) ∧ (∀ j : Nat, j < 4 → M1.1 46 j 1 = M1.1 175 0 j) ∧ (∀ j : Nat, j < 4 → M1.1 46 j 2 = M1.1 176 0 j) ∧ (∀ j : Nat, j < nb → M1.1 50 j 0 = M1.1 110 0 j) ∧ (∀ j : Nat, j < nb → M1.1 50 j 1 = M1.1 112 0 j) ∧ M1.1 1 0 2 = M1.1 60 0 5 ∧ (∀ s i : Nat, s < 4 → i < 40 → M1.1 47 s i = M1.1 177 0 (40 * s + i)) ∧ rt_WN M1 ∧ rt_PC nb M1 ∧ rt_FB M1 ∧ (∀ j : Nat, j < nb → rt_nkM M1 j = rt_nmM M1 j) → ∀ ls : Array Slot, lv_has ls 4 [(3, .int i), (2, .ref (ad 60 0)), (1, .ref (ad 0 0)), (0, .ref b)] → W p l e room_1 s m #[Value.ref b] below meth c H1 locs1 kc sl (lw_Z below #[Value.ref b] s) (F0 m 1835 ls [])) (ls : Array Slot) (hl : lv_has ls 4 [(3, .int i), (2, .ref (ad 60 0)), (1, .ref (ad 0 0)), (0, .ref b)]) : W p l e room_1 s m #[Value.ref b] below meth c H locs kc sl (lw_Z below #[Value.ref b] s) (F0 m 939 ls []) := by
  obtain ⟨hx, hb, hr, hml, hown, hts, hX, hbl, hlocks, hgv⟩ := id C0
  have hown : s.vm.findClass RL = some m.cls := hown
  have hb : c.code = cL_law := hb
  have hbA : ¬ (fun q : Nat => s.heap.size ≤ q) b := Nat.not_le.mpr hbl
  have hk1 : kc + 0 ≤ room_1.cells := by show kc + 0 ≤ 600000; omega
  have hs1 : sl + 0 ≤ room_1.slots := by show sl + 0 ≤ 7302250; omega
  have hI0 := hI
  have hPC : rt_PC nb M := hrel.2.2.2.2.2.2.2.2.2.2.2.1
  have hCI : rt_CI nb M := hPC.1
  have hTI : rt_TI nb M := hPC.2.1
  refine lv_aload_n hx hb dL_law_939 rfl (lv_at hl 2 rfl) ?_
  refine lv_aload_n hx hb dL_law_940 rfl (lv_at hl 3 rfl) ?_
  refine lv_iload_n hx hb dL_law_941 rfl (lv_at hl 0 rfl) ?_
  refine lv_iconst (v := 1) hx hb dL_law_942 (by decide) ?_
  refine fx_iadd hx hb dL_law_943 rfl zk_1 (by omega) (fun y1 ey1 ty1 => ?_)
  refine va_sld hx hb hX hbl hbA hS (fm_in (by omega)) dL_law_944 ?_
  refine lv_topi (fun x2 ex2 => ?_)
  refine lv_aload_n hx hb dL_law_945 rfl (lv_at hl 3 rfl) ?_
  refine lv_iload_n hx hb dL_law_946 rfl (lv_at hl 0 rfl) ?_
  refine lv_iconst (v := 2) hx hb dL_law_947 (by decide) ?_
  refine fx_iadd hx hb dL_law_948 rfl zk_2 (by omega) (fun y3 ey3 ty3 => ?_)
  refine va_sld hx hb hX hbl hbA hS (fm_in (by omega)) dL_law_949 ?_
  refine lv_topi (fun x4 ex4 => ?_)
  refine lv_aload_n hx hb dL_law_950 rfl (lv_at hl 3 rfl) ?_
  refine lv_iload_n hx hb dL_law_951 rfl (lv_at hl 0 rfl) ?_
  refine lv_iconst (v := 3) hx hb dL_law_952 (by decide) ?_
  refine fx_iadd hx hb dL_law_953 rfl zk_3 (by omega) (fun y5 ey5 ty5 => ?_)
  refine va_sld hx hb hX hbl hbA hS (fm_in (by omega)) dL_law_954 ?_
  refine lv_topi (fun x6 ex6 => ?_)
  refine fm_cl (va_runV (As := [.int x2, .int x4, .int x6]) (rest := []) ⟨hx, hb, hml, hown, hts⟩ (fc_X11_share l D ad C nb M hI x2 x4 x6 (by assumption)) (cwV 3 hts gL_law_X11_share rfl rfl rfl (by decide +kernel) ⟨Nat.le_of_ble_eq_true rfl, Nat.le_of_ble_eq_true rfl⟩) (fm_preV hc hw hS kl_0 sh_0 rfl) rfl rfl hl.1 rfl (lv_room (Nat.le_of_ble_eq_true rfl)) dL_law_955 ⟨hk1, hs1⟩) hS hc (fun r7 M8 H locs hr7 hw hS => ?_)
  obtain ⟨hI, hEM8, hr7⟩ := hr7
  refine lv_pop2_2 hx hb dL_law_958 rfl ?_
  refine lv_aload_n hx hb dL_law_959 rfl (lv_at hl 1 rfl) ?_
  refine lv_aload_n hx hb dL_law_960 rfl (lv_at hl 3 rfl) ?_
  refine lv_iload_n hx hb dL_law_961 rfl (lv_at hl 0 rfl) ?_
  refine lv_iconst (v := 1) hx hb dL_law_962 (by decide) ?_
  refine fx_iadd hx hb dL_law_963 rfl zk_1 (by omega) (fun y9 ey9 ty9 => ?_)
  refine va_sld hx hb hX hbl hbA hS (fm_in (by omega)) dL_law_964 ?_
  refine lv_topi (fun x10 ex10 => ?_)
  have qx10 : x2 = x10 := by rw [ex10, ex2, ey9, ey1]
  clear ex10
  subst qx10
  refine lv_aload_n hx hb dL_law_965 rfl (lv_at hl 3 rfl) ?_
  refine lv_iload_n hx hb dL_law_966 rfl (lv_at hl 0 rfl) ?_
  refine lv_iconst (v := 2) hx hb dL_law_967 (by decide) ?_
  refine fx_iadd hx hb dL_law_968 rfl zk_2 (by omega) (fun y11 ey11 ty11 => ?_)
  refine va_sld hx hb hX hbl hbA hS (fm_in (by omega)) dL_law_969 ?_
  refine lv_topi (fun x12 ex12 => ?_)
  have qx12 : x4 = x12 := by rw [ex12, ex4, ey11, ey3]
  clear ex12
  subst qx12
  refine lv_aload_n hx hb dL_law_970 rfl (lv_at hl 3 rfl) ?_
  refine lv_iload_n hx hb dL_law_971 rfl (lv_at hl 0 rfl) ?_
  refine lv_iconst (v := 3) hx hb dL_law_972 (by decide) ?_
  refine fx_iadd hx hb dL_law_973 rfl zk_3 (by omega) (fun y13 ey13 ty13 => ?_)
  refine va_sld hx hb hX hbl hbA hS (fm_in (by omega)) dL_law_974 ?_
  refine lv_topi (fun x14 ex14 => ?_)
  have qx14 : x6 = x14 := by rw [ex14, ex6, ey13, ey5]
  clear ex14
  subst qx14
  refine fm_cl (va_runV (As := [.int x2, .int x4, .int x6]) (rest := []) ⟨hx, hb, hml, hown, hts⟩ (fc_X12_share l D ad C nb M8 hI x2 x4 x6) (cwV 3 hts gL_law_X12_share rfl rfl rfl (by decide +kernel) ⟨Nat.le_of_ble_eq_true rfl, Nat.le_of_ble_eq_true rfl⟩) (fm_preV hc hw hS kl_60 sh_60 rfl) rfl rfl hl.1 rfl (lv_room (Nat.le_of_ble_eq_true rfl)) dL_law_975 ⟨hk1, hs1⟩) hS hc (fun r15 M16 H locs hr15 hw hS => ?_)
  obtain ⟨hI, hEM16, hr15⟩ := hr15
  refine lv_pop2_2 hx hb dL_law_978 rfl ?_
  refine lv_goto (tgt := 1835) hx hb dL_law_979 (by decide) ?_
  have hr90 : M16.1 0 0 10 = M16.1 60 0 16 := by rw [(hEM16 0 0 10 (by decide)).1, (hEM8 0 0 10 (by decide)).1, (hEM16 60 0 16 (by decide)).1, (hEM8 60 0 16 (by decide)).1]; exact hrel.1
  have hr91 : M16.1 0 0 9 = M16.1 60 0 0 := by rw [(hEM16 0 0 9 (by decide)).1, (hEM8 0 0 9 (by decide)).1, (hEM16 60 0 0 (by decide)).1, (hEM8 60 0 0 (by decide)).1]; exact hrel.2.1
  have hr92 : M16.1 0 0 11 = M16.1 60 0 21 := by rw [(hEM16 0 0 11 (by decide)).1, (hEM8 0 0 11 (by decide)).1, (hEM16 60 0 21 (by decide)).1, (hEM8 60 0 21 (by decide)).1]; exact hrel.2.2.1
  have hr93 : (∀ j : Nat, j < nb → M16.1 50 j 2 = M16.1 111 0 j) := fun j hj => by rw [(hEM16 50 j 2 (by decide)).1, (hEM8 50 j 2 (by decide)).1, (hEM16 111 0 j (by rw [cd_111]; decide)).1, (hEM8 111 0 j (by rw [cd_111]; decide)).1]; exact hrel.2.2.2.1 j hj
  have hr94 : (∀ j : Nat, j < 4 → M16.1 46 j 1 = M16.1 175 0 j) := fun j hj => by rw [(hEM16 46 j 1 (by decide)).1, (hEM8 46 j 1 (by decide)).1, (hEM16 175 0 j (by rw [cd_175]; decide)).1, (hEM8 175 0 j (by rw [cd_175]; decide)).1]; exact hrel.2.2.2.2.1 j hj
  have hr95 : (∀ j : Nat, j < 4 → M16.1 46 j 2 = M16.1 176 0 j) := fun j hj => by rw [(hEM16 46 j 2 (by decide)).1, (hEM8 46 j 2 (by decide)).1, (hEM16 176 0 j (by rw [cd_176]; decide)).1, (hEM8 176 0 j (by rw [cd_176]; decide)).1]; exact hrel.2.2.2.2.2.1 j hj
  have hr96 : (∀ j : Nat, j < nb → M16.1 50 j 0 = M16.1 110 0 j) := fun j hj => by rw [(hEM16 50 j 0 (by decide)).1, (hEM8 50 j 0 (by decide)).1, (hEM16 110 0 j (by rw [cd_110]; decide)).1, (hEM8 110 0 j (by rw [cd_110]; decide)).1]; exact hrel.2.2.2.2.2.2.1 j hj
  have hr97 : (∀ j : Nat, j < nb → M16.1 50 j 1 = M16.1 112 0 j) := fun j hj => by rw [(hEM16 50 j 1 (by decide)).1, (hEM8 50 j 1 (by decide)).1, (hEM16 112 0 j (by rw [cd_112]; decide)).1, (hEM8 112 0 j (by rw [cd_112]; decide)).1]; exact hrel.2.2.2.2.2.2.2.1 j hj
  have hr98 : M16.1 1 0 2 = M16.1 60 0 5 := by rw [(hEM16 1 0 2 (by decide)).1, (hEM8 1 0 2 (by decide)).1, (hEM16 60 0 5 (by decide)).1, (hEM8 60 0 5 (by decide)).1]; exact hrel.2.2.2.2.2.2.2.2.1
  have hs90 : (∀ s i : Nat, s < 4 → i < 40 → M16.1 47 s i = M16.1 177 0 (40 * s + i)) := fun s i hs hi => by rw [(hEM16 47 s i (by rw [cd_47]; decide)).1, (hEM8 47 s i (by rw [cd_47]; decide)).1, (hEM16 177 0 (40 * s + i) (by rw [cd_177]; decide)).1, (hEM8 177 0 (40 * s + i) (by rw [cd_177]; decide)).1]; exact hrel.2.2.2.2.2.2.2.2.2.1 s i hs hi
  have hs91_1 : rt_WN M8 := rt_WN_same hEM8 (by decide) hrel.2.2.2.2.2.2.2.2.2.2.1
  have hs91 : rt_WN M16 := rt_WN_same hEM16 (by decide) hs91_1
  have hs92_1 : rt_PC nb M8 := rt_PC_ci hEM8 (by decide) hr7 hrel.2.2.2.2.2.2.2.2.2.2.2.1
  have hs92 : rt_PC nb M16 := rt_PC_same hEM16 (by decide) hs92_1
  have hs93_1 : rt_FB M8 := rt_FB_same hEM8 (by decide) hrel.2.2.2.2.2.2.2.2.2.2.2.2.1
  have hs93 : rt_FB M16 := rt_FB_same hEM16 (by decide) hs93_1
  have hs94 : (∀ j : Nat, j < nb → rt_nkM M16 j = rt_nmM M16 j) := by rw [rt_nkM_same hEM16 (by decide), rt_nkM_same hEM8 (by decide), rt_nmM_same hEM16 (by decide), rt_nmM_same hEM8 (by decide)]; exact hrel.2.2.2.2.2.2.2.2.2.2.2.2.2
  have hrel9 : M16.1 0 0 10 = M16.1 60 0 16 ∧ M16.1 0 0 9 = M16.1 60 0 0 ∧ M16.1 0 0 11 = M16.1 60 0 21 ∧ (∀ j : Nat, j < nb → M16.1 50 j 2 = M16.1 111 0 j) ∧ (∀ j : Nat, j < 4 → M16.1 46 j 1 = M16.1 175 0 j) ∧ (∀ j : Nat, j < 4 → M16.1 46 j 2 = M16.1 176 0 j) ∧ (∀ j : Nat, j < nb → M16.1 50 j 0 = M16.1 110 0 j) ∧ (∀ j : Nat, j < nb → M16.1 50 j 1 = M16.1 112 0 j) ∧ M16.1 1 0 2 = M16.1 60 0 5 ∧ (∀ s i : Nat, s < 4 → i < 40 → M16.1 47 s i = M16.1 177 0 (40 * s + i)) ∧ rt_WN M16 ∧ rt_PC nb M16 ∧ rt_FB M16 ∧ (∀ j : Nat, j < nb → rt_nkM M16 j = rt_nmM M16 j) := ⟨hr90, hr91, hr92, hr93, hr94, hr95, hr96, hr97, hr98, hs90, hs91, hs92, hs93, hs94⟩
  exact kk M16 _ _ hw hI hS hrel9 ls (lv_sub hl [0, 1, 2, 3] rfl)
set_option maxHeartbeats 1000000 in
set_option maxRecDepth 20000 in
theorem lb_17 {p : Program} {l : Launch} {e : Env} {s : State} {m : MethodId} {below : List Frame} {meth : Method} {c : Code} {D : va_G} {ad : Nat → Nat → Nat} {C : Nat → Nat → ClassId} {nb : Nat} {M : fm_M} {b L : Nat} {xs : Nat → Int32} {H : Heap} {locs : List Loc} {kc sl : Nat} {i : Int32} (C0 : lw_At p s m meth c b L xs) (hkc : kc ≤ 10000) (hsl : sl ≤ 300000) (hc : fm_Cx D ad C nb (fun q : Nat => s.heap.size ≤ q) s) (hw : fm_at D ad C nb M H) (hI : fm_I nb ad M) (hS : va_S (fun q : Nat => s.heap.size ≤ q) s.heap H locs) (hi : 0 ≤ i.toInt ∧ i.toInt + 6 ≤ L) (hL : L ≤ 3072) (hrel : M.1 0 0 10 = M.1 60 0 16 ∧ M.1 0 0 9 = M.1 60 0 0 ∧ M.1 0 0 11 = M.1 60 0 21 ∧ (∀ j : Nat, j < nb → M.1 50 j 2 = M.1 111 0 j) ∧ (∀ j : Nat, j < 4 → M.1 46 j 1 = M.1 175 0 j) ∧ (∀ j : Nat, j < 4 → M.1 46 j 2 = M.1 176 0 j) ∧ (∀ j : Nat, j < nb → M.1 50 j 0 = M.1 110 0 j) ∧ (∀ j : Nat, j < nb → M.1 50 j 1 = M.1 112 0 j) ∧ M.1 1 0 2 = M.1 60 0 5 ∧ (∀ s i : Nat, s < 4 → i < 40 → M.1 47 s i = M.1 177 0 (40 * s + i)) ∧ rt_WN M ∧ rt_PC nb M ∧ rt_FB M ∧ (∀ j : Nat, j < nb → rt_nkM M j = rt_nmM M j)) (kk : ∀ (M1 : fm_M) (H1 : Heap) (locs1 : List Loc), fm_at D ad C nb M1 H1 → fm_I nb ad M1 → va_S (fun q : Nat => s.heap.size ≤ q) s.heap H1 locs1 → M1.1 0 0 10 = M1.1 60 0 16 ∧ M1.1 0 0 9 = M1.1 60 0 0 ∧ M1.1 0 0 11 = M1.1 60 0 21 ∧ (∀ j : Nat, j < nb → M1.1 50 j 2 = M1.1 111 0 j) ∧ (∀ j : Nat, j < 4 → M1.1 46 j 1 = M1.1 175 0 j) ∧ (∀ j : Nat, j < 4 → M1.1 46 j 2 = M1.1 176 0 j) ∧ (∀ j : Nat, j < nb → M1.1 50 j 0 = M1.1 110 0 j) ∧ (∀ j : Nat, j < nb → M1.1 50 j 1 = M1.1 112 0 j) ∧ M1.1 1 0 2 = M1.1 60 0 5 ∧ (∀ s i : Nat, s < 4 → i < 40 → M1.1 47 s i = M1.1 177 0 (40 * s + i)) ∧ rt_WN M1 ∧ rt_PC nb M1 ∧ rt_FB M1 ∧ (∀ j : Nat, j < nb → rt_nkM M1 j = rt_nmM M1 j) → ∀ ls : Array Slot, lv_has ls 4 [(3, .int i), (2, .ref (ad 60 0)), (1, .ref (ad 0 0)), (0, .ref b)] → W p l e room_1 s m #[Value.ref b] below meth c H1 locs1 kc sl (lw_Z below #[Value.ref b] s) (F0 m 1835 ls [])) (ls : Array Slot) (hl : lv_has ls 4 [(3, .int i), (2, .ref (ad 60 0)), (1, .ref (ad 0 0)), (0, .ref b)]) : W p l e room_1 s m #[Value.ref b] below meth c H locs kc sl (lw_Z below #[Value.ref b] s) (F0 m 982 ls []) := by
  obtain ⟨hx, hb, hr, hml, hown, hts, hX, hbl, hlocks, hgv⟩ := id C0
  have hown : s.vm.findClass RL = some m.cls := hown
  have hb : c.code = cL_law := hb
  have hbA : ¬ (fun q : Nat => s.heap.size ≤ q) b := Nat.not_le.mpr hbl
  have hk1 : kc + 0 ≤ room_1.cells := by show kc + 0 ≤ 600000; omega
  have hs1 : sl + 0 ≤ room_1.slots := by show sl + 0 ≤ 7302250; omega
  have hI0 := hI
  have hPC : rt_PC nb M := hrel.2.2.2.2.2.2.2.2.2.2.2.1
  have hCI : rt_CI nb M := hPC.1
  have hTI : rt_TI nb M := hPC.2.1
  refine lv_aload_n hx hb dL_law_982 rfl (lv_at hl 2 rfl) ?_
  refine lv_aload_n hx hb dL_law_983 rfl (lv_at hl 3 rfl) ?_
  refine lv_iload_n hx hb dL_law_984 rfl (lv_at hl 0 rfl) ?_
  refine lv_iconst (v := 1) hx hb dL_law_985 (by decide) ?_
  refine fx_iadd hx hb dL_law_986 rfl zk_1 (by omega) (fun y1 ey1 ty1 => ?_)
  refine va_sld hx hb hX hbl hbA hS (fm_in (by omega)) dL_law_987 ?_
  refine lv_topi (fun x2 ex2 => ?_)
  refine lv_aload_n hx hb dL_law_988 rfl (lv_at hl 3 rfl) ?_
  refine lv_iload_n hx hb dL_law_989 rfl (lv_at hl 0 rfl) ?_
  refine lv_iconst (v := 2) hx hb dL_law_990 (by decide) ?_
  refine fx_iadd hx hb dL_law_991 rfl zk_2 (by omega) (fun y3 ey3 ty3 => ?_)
  refine va_sld hx hb hX hbl hbA hS (fm_in (by omega)) dL_law_992 ?_
  refine lv_topi (fun x4 ex4 => ?_)
  refine lv_aload_n hx hb dL_law_993 rfl (lv_at hl 3 rfl) ?_
  refine lv_iload_n hx hb dL_law_994 rfl (lv_at hl 0 rfl) ?_
  refine lv_iconst (v := 3) hx hb dL_law_995 (by decide) ?_
  refine fx_iadd hx hb dL_law_996 rfl zk_3 (by omega) (fun y5 ey5 ty5 => ?_)
  refine va_sld hx hb hX hbl hbA hS (fm_in (by omega)) dL_law_997 ?_
  refine lv_topi (fun x6 ex6 => ?_)
  refine lv_aload_n hx hb dL_law_998 rfl (lv_at hl 3 rfl) ?_
  refine lv_iload_n hx hb dL_law_999 rfl (lv_at hl 0 rfl) ?_
  refine lv_iconst (v := 4) hx hb dL_law_1000 (by decide) ?_
  refine fx_iadd hx hb dL_law_1001 rfl zk_4 (by omega) (fun y7 ey7 ty7 => ?_)
  refine va_sld hx hb hX hbl hbA hS (fm_in (by omega)) dL_law_1002 ?_
  refine lv_topi (fun x8 ex8 => ?_)
  refine fm_ci (va_runV (As := [.int x2, .int x4, .int x6, .int x8]) (rest := []) ⟨hx, hb, hml, hown, hts⟩ (fc_X11_parted l D ad C nb M hI x2 x4 x6 x8 (by assumption)) (cwV 4 hts gL_law_X11_parted rfl rfl rfl (by decide +kernel) ⟨Nat.le_of_ble_eq_true rfl, Nat.le_of_ble_eq_true rfl⟩) (fm_preV hc hw hS kl_0 sh_0 rfl) rfl rfl hl.1 rfl (lv_room (Nat.le_of_ble_eq_true rfl)) dL_law_1003 ⟨hk1, hs1⟩) hS hc (fun r9 M10 H locs hr9 hw hS => ?_)
  obtain ⟨hI, hEM10, hr9⟩ := hr9
  refine lv_pop hx hb dL_law_1006 rfl ?_
  refine lv_aload_n hx hb dL_law_1007 rfl (lv_at hl 1 rfl) ?_
  refine lv_aload_n hx hb dL_law_1008 rfl (lv_at hl 3 rfl) ?_
  refine lv_iload_n hx hb dL_law_1009 rfl (lv_at hl 0 rfl) ?_
  refine lv_iconst (v := 1) hx hb dL_law_1010 (by decide) ?_
  refine fx_iadd hx hb dL_law_1011 rfl zk_1 (by omega) (fun y11 ey11 ty11 => ?_)
  refine va_sld hx hb hX hbl hbA hS (fm_in (by omega)) dL_law_1012 ?_
  refine lv_topi (fun x12 ex12 => ?_)
  have qx12 : x2 = x12 := by rw [ex12, ex2, ey11, ey1]
  clear ex12
  subst qx12
  refine lv_aload_n hx hb dL_law_1013 rfl (lv_at hl 3 rfl) ?_
  refine lv_iload_n hx hb dL_law_1014 rfl (lv_at hl 0 rfl) ?_
  refine lv_iconst (v := 2) hx hb dL_law_1015 (by decide) ?_
  refine fx_iadd hx hb dL_law_1016 rfl zk_2 (by omega) (fun y13 ey13 ty13 => ?_)
  refine va_sld hx hb hX hbl hbA hS (fm_in (by omega)) dL_law_1017 ?_
  refine lv_topi (fun x14 ex14 => ?_)
  have qx14 : x4 = x14 := by rw [ex14, ex4, ey13, ey3]
  clear ex14
  subst qx14
  refine lv_aload_n hx hb dL_law_1018 rfl (lv_at hl 3 rfl) ?_
  refine lv_iload_n hx hb dL_law_1019 rfl (lv_at hl 0 rfl) ?_
  refine lv_iconst (v := 3) hx hb dL_law_1020 (by decide) ?_
  refine fx_iadd hx hb dL_law_1021 rfl zk_3 (by omega) (fun y15 ey15 ty15 => ?_)
  refine va_sld hx hb hX hbl hbA hS (fm_in (by omega)) dL_law_1022 ?_
  refine lv_topi (fun x16 ex16 => ?_)
  have qx16 : x6 = x16 := by rw [ex16, ex6, ey15, ey5]
  clear ex16
  subst qx16
  refine lv_aload_n hx hb dL_law_1023 rfl (lv_at hl 3 rfl) ?_
  refine lv_iload_n hx hb dL_law_1024 rfl (lv_at hl 0 rfl) ?_
  refine lv_iconst (v := 4) hx hb dL_law_1025 (by decide) ?_
  refine fx_iadd hx hb dL_law_1026 rfl zk_4 (by omega) (fun y17 ey17 ty17 => ?_)
  refine va_sld hx hb hX hbl hbA hS (fm_in (by omega)) dL_law_1027 ?_
  refine lv_topi (fun x18 ex18 => ?_)
  have qx18 : x8 = x18 := by rw [ex18, ex8, ey17, ey7]
  clear ex18
  subst qx18
  refine fm_ci (va_runV (As := [.int x2, .int x4, .int x6, .int x8]) (rest := []) ⟨hx, hb, hml, hown, hts⟩ (fc_X12_parted l D ad C nb M10 hI x2 x4 x6 x8) (cwV 4 hts gL_law_X12_parted rfl rfl rfl (by decide +kernel) ⟨Nat.le_of_ble_eq_true rfl, Nat.le_of_ble_eq_true rfl⟩) (fm_preV hc hw hS kl_60 sh_60 rfl) rfl rfl hl.1 rfl (lv_room (Nat.le_of_ble_eq_true rfl)) dL_law_1028 ⟨hk1, hs1⟩) hS hc (fun r19 M20 H locs hr19 hw hS => ?_)
  obtain ⟨hI, hEM20, hr19⟩ := hr19
  refine lv_pop hx hb dL_law_1031 rfl ?_
  refine lv_goto (tgt := 1835) hx hb dL_law_1032 (by decide) ?_
  have hr90 : M20.1 0 0 10 = M20.1 60 0 16 := by rw [(hEM20 0 0 10 (by decide)).1, (hEM10 0 0 10 (by decide)).1, (hEM20 60 0 16 (by decide)).1, (hEM10 60 0 16 (by decide)).1]; exact hrel.1
  have hr91 : M20.1 0 0 9 = M20.1 60 0 0 := by rw [(hEM20 0 0 9 (by decide)).1, (hEM10 0 0 9 (by decide)).1, (hEM20 60 0 0 (by decide)).1, (hEM10 60 0 0 (by decide)).1]; exact hrel.2.1
  have hr92 : M20.1 0 0 11 = M20.1 60 0 21 := by rw [(hEM20 0 0 11 (by decide)).1, (hEM10 0 0 11 (by decide)).1, (hEM20 60 0 21 (by decide)).1, (hEM10 60 0 21 (by decide)).1]; exact hrel.2.2.1
  have hr93 : (∀ j : Nat, j < nb → M20.1 50 j 2 = M20.1 111 0 j) := fun j hj => by rw [(hEM20 50 j 2 (by decide)).1, (hEM10 50 j 2 (by decide)).1, (hEM20 111 0 j (by rw [cd_111]; decide)).1, (hEM10 111 0 j (by rw [cd_111]; decide)).1]; exact hrel.2.2.2.1 j hj
  have hr94 : (∀ j : Nat, j < 4 → M20.1 46 j 1 = M20.1 175 0 j) := fun j hj => by rw [(hEM20 46 j 1 (by decide)).1, (hEM10 46 j 1 (by decide)).1, (hEM20 175 0 j (by rw [cd_175]; decide)).1, (hEM10 175 0 j (by rw [cd_175]; decide)).1]; exact hrel.2.2.2.2.1 j hj
  have hr95 : (∀ j : Nat, j < 4 → M20.1 46 j 2 = M20.1 176 0 j) := fun j hj => by rw [(hEM20 46 j 2 (by decide)).1, (hEM10 46 j 2 (by decide)).1, (hEM20 176 0 j (by rw [cd_176]; decide)).1, (hEM10 176 0 j (by rw [cd_176]; decide)).1]; exact hrel.2.2.2.2.2.1 j hj
  have hr96 : (∀ j : Nat, j < nb → M20.1 50 j 0 = M20.1 110 0 j) := fun j hj => by rw [(hEM20 50 j 0 (by decide)).1, (hEM10 50 j 0 (by decide)).1, (hEM20 110 0 j (by rw [cd_110]; decide)).1, (hEM10 110 0 j (by rw [cd_110]; decide)).1]; exact hrel.2.2.2.2.2.2.1 j hj
  have hr97 : (∀ j : Nat, j < nb → M20.1 50 j 1 = M20.1 112 0 j) := fun j hj => by rw [(hEM20 50 j 1 (by decide)).1, (hEM10 50 j 1 (by decide)).1, (hEM20 112 0 j (by rw [cd_112]; decide)).1, (hEM10 112 0 j (by rw [cd_112]; decide)).1]; exact hrel.2.2.2.2.2.2.2.1 j hj
  have hr98 : M20.1 1 0 2 = M20.1 60 0 5 := by rw [(hEM20 1 0 2 (by decide)).1, (hEM10 1 0 2 (by decide)).1, (hEM20 60 0 5 (by decide)).1, (hEM10 60 0 5 (by decide)).1]; exact hrel.2.2.2.2.2.2.2.2.1
  have hs90 : (∀ s i : Nat, s < 4 → i < 40 → M20.1 47 s i = M20.1 177 0 (40 * s + i)) := fun s i hs hi => by rw [(hEM20 47 s i (by rw [cd_47]; decide)).1, (hEM10 47 s i (by rw [cd_47]; decide)).1, (hEM20 177 0 (40 * s + i) (by rw [cd_177]; decide)).1, (hEM10 177 0 (40 * s + i) (by rw [cd_177]; decide)).1]; exact hrel.2.2.2.2.2.2.2.2.2.1 s i hs hi
  have hs91_1 : rt_WN M10 := rt_WN_same hEM10 (by decide) hrel.2.2.2.2.2.2.2.2.2.2.1
  have hs91 : rt_WN M20 := rt_WN_same hEM20 (by decide) hs91_1
  have hs92_1 : rt_PC nb M10 := rt_PC_ci hEM10 (by decide) hr9 hrel.2.2.2.2.2.2.2.2.2.2.2.1
  have hs92 : rt_PC nb M20 := rt_PC_same hEM20 (by decide) hs92_1
  have hs93_1 : rt_FB M10 := rt_FB_same hEM10 (by decide) hrel.2.2.2.2.2.2.2.2.2.2.2.2.1
  have hs93 : rt_FB M20 := rt_FB_same hEM20 (by decide) hs93_1
  have hs94 : (∀ j : Nat, j < nb → rt_nkM M20 j = rt_nmM M20 j) := by rw [rt_nkM_same hEM20 (by decide), rt_nkM_same hEM10 (by decide), rt_nmM_same hEM20 (by decide), rt_nmM_same hEM10 (by decide)]; exact hrel.2.2.2.2.2.2.2.2.2.2.2.2.2
  have hrel9 : M20.1 0 0 10 = M20.1 60 0 16 ∧ M20.1 0 0 9 = M20.1 60 0 0 ∧ M20.1 0 0 11 = M20.1 60 0 21 ∧ (∀ j : Nat, j < nb → M20.1 50 j 2 = M20.1 111 0 j) ∧ (∀ j : Nat, j < 4 → M20.1 46 j 1 = M20.1 175 0 j) ∧ (∀ j : Nat, j < 4 → M20.1 46 j 2 = M20.1 176 0 j) ∧ (∀ j : Nat, j < nb → M20.1 50 j 0 = M20.1 110 0 j) ∧ (∀ j : Nat, j < nb → M20.1 50 j 1 = M20.1 112 0 j) ∧ M20.1 1 0 2 = M20.1 60 0 5 ∧ (∀ s i : Nat, s < 4 → i < 40 → M20.1 47 s i = M20.1 177 0 (40 * s + i)) ∧ rt_WN M20 ∧ rt_PC nb M20 ∧ rt_FB M20 ∧ (∀ j : Nat, j < nb → rt_nkM M20 j = rt_nmM M20 j) := ⟨hr90, hr91, hr92, hr93, hr94, hr95, hr96, hr97, hr98, hs90, hs91, hs92, hs93, hs94⟩
  exact kk M20 _ _ hw hI hS hrel9 ls (lv_sub hl [0, 1, 2, 3] rfl)
set_option maxHeartbeats 1000000 in
set_option maxRecDepth 20000 in
theorem lb_18 {p : Program} {l : Launch} {e : Env} {s : State} {m : MethodId} {below : List Frame} {meth : Method} {c : Code} {D : va_G} {ad : Nat → Nat → Nat} {C : Nat → Nat → ClassId} {nb : Nat} {M : fm_M} {b L : Nat} {xs : Nat → Int32} {H : Heap} {locs : List Loc} {kc sl : Nat} {i : Int32} (C0 : lw_At p s m meth c b L xs) (hkc : kc ≤ 10000) (hsl : sl ≤ 300000) (hc : fm_Cx D ad C nb (fun q : Nat => s.heap.size ≤ q) s) (hw : fm_at D ad C nb M H) (hI : fm_I nb ad M) (hS : va_S (fun q : Nat => s.heap.size ≤ q) s.heap H locs) (hi : 0 ≤ i.toInt ∧ i.toInt + 6 ≤ L) (hL : L ≤ 3072) (hrel : M.1 0 0 10 = M.1 60 0 16 ∧ M.1 0 0 9 = M.1 60 0 0 ∧ M.1 0 0 11 = M.1 60 0 21 ∧ (∀ j : Nat, j < nb → M.1 50 j 2 = M.1 111 0 j) ∧ (∀ j : Nat, j < 4 → M.1 46 j 1 = M.1 175 0 j) ∧ (∀ j : Nat, j < 4 → M.1 46 j 2 = M.1 176 0 j) ∧ (∀ j : Nat, j < nb → M.1 50 j 0 = M.1 110 0 j) ∧ (∀ j : Nat, j < nb → M.1 50 j 1 = M.1 112 0 j) ∧ M.1 1 0 2 = M.1 60 0 5 ∧ (∀ s i : Nat, s < 4 → i < 40 → M.1 47 s i = M.1 177 0 (40 * s + i)) ∧ rt_WN M ∧ rt_PC nb M ∧ rt_FB M ∧ (∀ j : Nat, j < nb → rt_nkM M j = rt_nmM M j)) (kk : ∀ (M1 : fm_M) (H1 : Heap) (locs1 : List Loc), fm_at D ad C nb M1 H1 → fm_I nb ad M1 → va_S (fun q : Nat => s.heap.size ≤ q) s.heap H1 locs1 → M1.1 0 0 10 = M1.1 60 0 16 ∧ M1.1 0 0 9 = M1.1 60 0 0 ∧ M1.1 0 0 11 = M1.1 60 0 21 ∧ (∀ j : Nat, j < nb → M1.1 50 j 2 = M1.1 111 0 j) ∧ (∀ j : Nat, j < 4 → M1.1 46 j 1 = M1.1 175 0 j) ∧ (∀ j : Nat, j < 4 → M1.1 46 j 2 = M1.1 176 0 j) ∧ (∀ j : Nat, j < nb → M1.1 50 j 0 = M1.1 110 0 j) ∧ (∀ j : Nat, j < nb → M1.1 50 j 1 = M1.1 112 0 j) ∧ M1.1 1 0 2 = M1.1 60 0 5 ∧ (∀ s i : Nat, s < 4 → i < 40 → M1.1 47 s i = M1.1 177 0 (40 * s + i)) ∧ rt_WN M1 ∧ rt_PC nb M1 ∧ rt_FB M1 ∧ (∀ j : Nat, j < nb → rt_nkM M1 j = rt_nmM M1 j) → ∀ ls : Array Slot, lv_has ls 4 [(3, .int i), (2, .ref (ad 60 0)), (1, .ref (ad 0 0)), (0, .ref b)] → W p l e room_1 s m #[Value.ref b] below meth c H1 locs1 kc sl (lw_Z below #[Value.ref b] s) (F0 m 1835 ls [])) (ls : Array Slot) (hl : lv_has ls 4 [(3, .int i), (2, .ref (ad 60 0)), (1, .ref (ad 0 0)), (0, .ref b)]) : W p l e room_1 s m #[Value.ref b] below meth c H locs kc sl (lw_Z below #[Value.ref b] s) (F0 m 1035 ls []) := by
  obtain ⟨hx, hb, hr, hml, hown, hts, hX, hbl, hlocks, hgv⟩ := id C0
  have hown : s.vm.findClass RL = some m.cls := hown
  have hb : c.code = cL_law := hb
  have hbA : ¬ (fun q : Nat => s.heap.size ≤ q) b := Nat.not_le.mpr hbl
  have hk1 : kc + 0 ≤ room_1.cells := by show kc + 0 ≤ 600000; omega
  have hs1 : sl + 0 ≤ room_1.slots := by show sl + 0 ≤ 7302250; omega
  have hI0 := hI
  have hPC : rt_PC nb M := hrel.2.2.2.2.2.2.2.2.2.2.2.1
  have hCI : rt_CI nb M := hPC.1
  have hTI : rt_TI nb M := hPC.2.1
  refine lv_aload_n hx hb dL_law_1035 rfl (lv_at hl 2 rfl) ?_
  refine lv_aload_n hx hb dL_law_1036 rfl (lv_at hl 3 rfl) ?_
  refine lv_iload_n hx hb dL_law_1037 rfl (lv_at hl 0 rfl) ?_
  refine lv_iconst (v := 1) hx hb dL_law_1038 (by decide) ?_
  refine fx_iadd hx hb dL_law_1039 rfl zk_1 (by omega) (fun y1 ey1 ty1 => ?_)
  refine va_sld hx hb hX hbl hbA hS (fm_in (by omega)) dL_law_1040 ?_
  refine lv_topi (fun x2 ex2 => ?_)
  refine fm_ci (va_runV (As := [.int x2]) (rest := []) ⟨hx, hb, hml, hown, hts⟩ (fc_X11_stays l D ad C nb M hI x2) (cwV 1 hts gL_law_X11_stays rfl rfl rfl (by decide +kernel) ⟨Nat.le_of_ble_eq_true rfl, Nat.le_of_ble_eq_true rfl⟩) (fm_preV hc hw hS kl_0 sh_0 rfl) rfl rfl hl.1 rfl (lv_room (Nat.le_of_ble_eq_true rfl)) dL_law_1041 ⟨hk1, hs1⟩) hS hc (fun r3 M4 H locs hr3 hw hS => ?_)
  obtain ⟨hI, hEM4, hr3⟩ := hr3
  refine lv_pop hx hb dL_law_1044 rfl ?_
  refine lv_aload_n hx hb dL_law_1045 rfl (lv_at hl 1 rfl) ?_
  refine lv_aload_n hx hb dL_law_1046 rfl (lv_at hl 3 rfl) ?_
  refine lv_iload_n hx hb dL_law_1047 rfl (lv_at hl 0 rfl) ?_
  refine lv_iconst (v := 1) hx hb dL_law_1048 (by decide) ?_
  refine fx_iadd hx hb dL_law_1049 rfl zk_1 (by omega) (fun y5 ey5 ty5 => ?_)
  refine va_sld hx hb hX hbl hbA hS (fm_in (by omega)) dL_law_1050 ?_
  refine lv_topi (fun x6 ex6 => ?_)
  have qx6 : x2 = x6 := by rw [ex6, ex2, ey5, ey1]
  clear ex6
  subst qx6
  refine fm_ci (va_runV (As := [.int x2]) (rest := []) ⟨hx, hb, hml, hown, hts⟩ (fc_X12_stays l D ad C nb M4 hI x2) (cwV 1 hts gL_law_X12_stays rfl rfl rfl (by decide +kernel) ⟨Nat.le_of_ble_eq_true rfl, Nat.le_of_ble_eq_true rfl⟩) (fm_preV hc hw hS kl_60 sh_60 rfl) rfl rfl hl.1 rfl (lv_room (Nat.le_of_ble_eq_true rfl)) dL_law_1051 ⟨hk1, hs1⟩) hS hc (fun r7 M8 H locs hr7 hw hS => ?_)
  obtain ⟨hI, hEM8, hr7⟩ := hr7
  refine lv_pop hx hb dL_law_1054 rfl ?_
  refine lv_goto (tgt := 1835) hx hb dL_law_1055 (by decide) ?_
  have hr90 : M8.1 0 0 10 = M8.1 60 0 16 := by rw [(hEM8 0 0 10 (by decide)).1, (hEM4 0 0 10 (by decide)).1, (hEM8 60 0 16 (by decide)).1, (hEM4 60 0 16 (by decide)).1]; exact hrel.1
  have hr91 : M8.1 0 0 9 = M8.1 60 0 0 := by rw [(hEM8 0 0 9 (by decide)).1, (hEM4 0 0 9 (by decide)).1, (hEM8 60 0 0 (by decide)).1, (hEM4 60 0 0 (by decide)).1]; exact hrel.2.1
  have hr92 : M8.1 0 0 11 = M8.1 60 0 21 := by rw [(hEM8 0 0 11 (by decide)).1, (hEM4 0 0 11 (by decide)).1, (hEM8 60 0 21 (by decide)).1, (hEM4 60 0 21 (by decide)).1]; exact hrel.2.2.1
  have hr93 : (∀ j : Nat, j < nb → M8.1 50 j 2 = M8.1 111 0 j) := fun j hj => by rw [(hEM8 50 j 2 (by decide)).1, (hEM4 50 j 2 (by decide)).1, (hEM8 111 0 j (by rw [cd_111]; decide)).1, (hEM4 111 0 j (by rw [cd_111]; decide)).1]; exact hrel.2.2.2.1 j hj
  have hr94 : (∀ j : Nat, j < 4 → M8.1 46 j 1 = M8.1 175 0 j) := fun j hj => by rw [(hEM8 46 j 1 (by decide)).1, (hEM4 46 j 1 (by decide)).1, (hEM8 175 0 j (by rw [cd_175]; decide)).1, (hEM4 175 0 j (by rw [cd_175]; decide)).1]; exact hrel.2.2.2.2.1 j hj
  have hr95 : (∀ j : Nat, j < 4 → M8.1 46 j 2 = M8.1 176 0 j) := fun j hj => by rw [(hEM8 46 j 2 (by decide)).1, (hEM4 46 j 2 (by decide)).1, (hEM8 176 0 j (by rw [cd_176]; decide)).1, (hEM4 176 0 j (by rw [cd_176]; decide)).1]; exact hrel.2.2.2.2.2.1 j hj
  have hr96 : (∀ j : Nat, j < nb → M8.1 50 j 0 = M8.1 110 0 j) := fun j hj => by rw [(hEM8 50 j 0 (by decide)).1, (hEM4 50 j 0 (by decide)).1, (hEM8 110 0 j (by rw [cd_110]; decide)).1, (hEM4 110 0 j (by rw [cd_110]; decide)).1]; exact hrel.2.2.2.2.2.2.1 j hj
  have hr97 : (∀ j : Nat, j < nb → M8.1 50 j 1 = M8.1 112 0 j) := fun j hj => by rw [(hEM8 50 j 1 (by decide)).1, (hEM4 50 j 1 (by decide)).1, (hEM8 112 0 j (by rw [cd_112]; decide)).1, (hEM4 112 0 j (by rw [cd_112]; decide)).1]; exact hrel.2.2.2.2.2.2.2.1 j hj
  have hr98 : M8.1 1 0 2 = M8.1 60 0 5 := by rw [(hEM8 1 0 2 (by decide)).1, (hEM4 1 0 2 (by decide)).1, (hEM8 60 0 5 (by decide)).1, (hEM4 60 0 5 (by decide)).1]; exact hrel.2.2.2.2.2.2.2.2.1
  have hs90 : (∀ s i : Nat, s < 4 → i < 40 → M8.1 47 s i = M8.1 177 0 (40 * s + i)) := fun s i hs hi => by rw [(hEM8 47 s i (by rw [cd_47]; decide)).1, (hEM4 47 s i (by rw [cd_47]; decide)).1, (hEM8 177 0 (40 * s + i) (by rw [cd_177]; decide)).1, (hEM4 177 0 (40 * s + i) (by rw [cd_177]; decide)).1]; exact hrel.2.2.2.2.2.2.2.2.2.1 s i hs hi
  have hs91_1 : rt_WN M4 := rt_WN_same hEM4 (by decide) hrel.2.2.2.2.2.2.2.2.2.2.1
  have hs91 : rt_WN M8 := rt_WN_same hEM8 (by decide) hs91_1
  have hs92_1 : rt_PC nb M4 := rt_PC_same hEM4 (by decide) hrel.2.2.2.2.2.2.2.2.2.2.2.1
  have hs92 : rt_PC nb M8 := rt_PC_same hEM8 (by decide) hs92_1
  have hs93_1 : rt_FB M4 := rt_FB_same hEM4 (by decide) hrel.2.2.2.2.2.2.2.2.2.2.2.2.1
  have hs93 : rt_FB M8 := rt_FB_same hEM8 (by decide) hs93_1
  have hs94 : (∀ j : Nat, j < nb → rt_nkM M8 j = rt_nmM M8 j) := by rw [rt_nkM_same hEM8 (by decide), rt_nkM_same hEM4 (by decide), rt_nmM_same hEM8 (by decide), rt_nmM_same hEM4 (by decide)]; exact hrel.2.2.2.2.2.2.2.2.2.2.2.2.2
  have hrel9 : M8.1 0 0 10 = M8.1 60 0 16 ∧ M8.1 0 0 9 = M8.1 60 0 0 ∧ M8.1 0 0 11 = M8.1 60 0 21 ∧ (∀ j : Nat, j < nb → M8.1 50 j 2 = M8.1 111 0 j) ∧ (∀ j : Nat, j < 4 → M8.1 46 j 1 = M8.1 175 0 j) ∧ (∀ j : Nat, j < 4 → M8.1 46 j 2 = M8.1 176 0 j) ∧ (∀ j : Nat, j < nb → M8.1 50 j 0 = M8.1 110 0 j) ∧ (∀ j : Nat, j < nb → M8.1 50 j 1 = M8.1 112 0 j) ∧ M8.1 1 0 2 = M8.1 60 0 5 ∧ (∀ s i : Nat, s < 4 → i < 40 → M8.1 47 s i = M8.1 177 0 (40 * s + i)) ∧ rt_WN M8 ∧ rt_PC nb M8 ∧ rt_FB M8 ∧ (∀ j : Nat, j < nb → rt_nkM M8 j = rt_nmM M8 j) := ⟨hr90, hr91, hr92, hr93, hr94, hr95, hr96, hr97, hr98, hs90, hs91, hs92, hs93, hs94⟩
  exact kk M8 _ _ hw hI hS hrel9 ls (lv_sub hl [0, 1, 2, 3] rfl)
set_option maxHeartbeats 1000000 in
set_option maxRecDepth 20000 in
theorem lb_19 {p : Program} {l : Launch} {e : Env} {s : State} {m : MethodId} {below : List Frame} {meth : Method} {c : Code} {D : va_G} {ad : Nat → Nat → Nat} {C : Nat → Nat → ClassId} {nb : Nat} {M : fm_M} {b L : Nat} {xs : Nat → Int32} {H : Heap} {locs : List Loc} {kc sl : Nat} {i : Int32} (C0 : lw_At p s m meth c b L xs) (hkc : kc ≤ 10000) (hsl : sl ≤ 300000) (hc : fm_Cx D ad C nb (fun q : Nat => s.heap.size ≤ q) s) (hw : fm_at D ad C nb M H) (hI : fm_I nb ad M) (hS : va_S (fun q : Nat => s.heap.size ≤ q) s.heap H locs) (hi : 0 ≤ i.toInt ∧ i.toInt + 6 ≤ L) (hL : L ≤ 3072) (hrel : M.1 0 0 10 = M.1 60 0 16 ∧ M.1 0 0 9 = M.1 60 0 0 ∧ M.1 0 0 11 = M.1 60 0 21 ∧ (∀ j : Nat, j < nb → M.1 50 j 2 = M.1 111 0 j) ∧ (∀ j : Nat, j < 4 → M.1 46 j 1 = M.1 175 0 j) ∧ (∀ j : Nat, j < 4 → M.1 46 j 2 = M.1 176 0 j) ∧ (∀ j : Nat, j < nb → M.1 50 j 0 = M.1 110 0 j) ∧ (∀ j : Nat, j < nb → M.1 50 j 1 = M.1 112 0 j) ∧ M.1 1 0 2 = M.1 60 0 5 ∧ (∀ s i : Nat, s < 4 → i < 40 → M.1 47 s i = M.1 177 0 (40 * s + i)) ∧ rt_WN M ∧ rt_PC nb M ∧ rt_FB M ∧ (∀ j : Nat, j < nb → rt_nkM M j = rt_nmM M j)) (kk : ∀ (M1 : fm_M) (H1 : Heap) (locs1 : List Loc), fm_at D ad C nb M1 H1 → fm_I nb ad M1 → va_S (fun q : Nat => s.heap.size ≤ q) s.heap H1 locs1 → M1.1 0 0 10 = M1.1 60 0 16 ∧ M1.1 0 0 9 = M1.1 60 0 0 ∧ M1.1 0 0 11 = M1.1 60 0 21 ∧ (∀ j : Nat, j < nb → M1.1 50 j 2 = M1.1 111 0 j) ∧ (∀ j : Nat, j < 4 → M1.1 46 j 1 = M1.1 175 0 j) ∧ (∀ j : Nat, j < 4 → M1.1 46 j 2 = M1.1 176 0 j) ∧ (∀ j : Nat, j < nb → M1.1 50 j 0 = M1.1 110 0 j) ∧ (∀ j : Nat, j < nb → M1.1 50 j 1 = M1.1 112 0 j) ∧ M1.1 1 0 2 = M1.1 60 0 5 ∧ (∀ s i : Nat, s < 4 → i < 40 → M1.1 47 s i = M1.1 177 0 (40 * s + i)) ∧ rt_WN M1 ∧ rt_PC nb M1 ∧ rt_FB M1 ∧ (∀ j : Nat, j < nb → rt_nkM M1 j = rt_nmM M1 j) → ∀ ls : Array Slot, lv_has ls 4 [(3, .int i), (2, .ref (ad 60 0)), (1, .ref (ad 0 0)), (0, .ref b)] → W p l e room_1 s m #[Value.ref b] below meth c H1 locs1 kc sl (lw_Z below #[Value.ref b] s) (F0 m 1835 ls [])) (ls : Array Slot) (hl : lv_has ls 4 [(3, .int i), (2, .ref (ad 60 0)), (1, .ref (ad 0 0)), (0, .ref b)]) : W p l e room_1 s m #[Value.ref b] below meth c H locs kc sl (lw_Z below #[Value.ref b] s) (F0 m 1058 ls []) := by
  obtain ⟨hx, hb, hr, hml, hown, hts, hX, hbl, hlocks, hgv⟩ := id C0
  have hown : s.vm.findClass RL = some m.cls := hown
  have hb : c.code = cL_law := hb
  have hbA : ¬ (fun q : Nat => s.heap.size ≤ q) b := Nat.not_le.mpr hbl
  have hk1 : kc + 0 ≤ room_1.cells := by show kc + 0 ≤ 600000; omega
  have hs1 : sl + 0 ≤ room_1.slots := by show sl + 0 ≤ 7302250; omega
  have hI0 := hI
  have hPC : rt_PC nb M := hrel.2.2.2.2.2.2.2.2.2.2.2.1
  have hCI : rt_CI nb M := hPC.1
  have hTI : rt_TI nb M := hPC.2.1
  refine lv_aload_n hx hb dL_law_1058 rfl (lv_at hl 2 rfl) ?_
  refine lv_aload_n hx hb dL_law_1059 rfl (lv_at hl 3 rfl) ?_
  refine lv_iload_n hx hb dL_law_1060 rfl (lv_at hl 0 rfl) ?_
  refine lv_iconst (v := 1) hx hb dL_law_1061 (by decide) ?_
  refine fx_iadd hx hb dL_law_1062 rfl zk_1 (by omega) (fun y1 ey1 ty1 => ?_)
  refine va_sld hx hb hX hbl hbA hS (fm_in (by omega)) dL_law_1063 ?_
  refine lv_topi (fun x2 ex2 => ?_)
  refine lv_aload_n hx hb dL_law_1064 rfl (lv_at hl 3 rfl) ?_
  refine lv_iload_n hx hb dL_law_1065 rfl (lv_at hl 0 rfl) ?_
  refine lv_iconst (v := 2) hx hb dL_law_1066 (by decide) ?_
  refine fx_iadd hx hb dL_law_1067 rfl zk_2 (by omega) (fun y3 ey3 ty3 => ?_)
  refine va_sld hx hb hX hbl hbA hS (fm_in (by omega)) dL_law_1068 ?_
  refine lv_topi (fun x4 ex4 => ?_)
  refine lv_aload_n hx hb dL_law_1069 rfl (lv_at hl 3 rfl) ?_
  refine lv_iload_n hx hb dL_law_1070 rfl (lv_at hl 0 rfl) ?_
  refine lv_iconst (v := 3) hx hb dL_law_1071 (by decide) ?_
  refine fx_iadd hx hb dL_law_1072 rfl zk_3 (by omega) (fun y5 ey5 ty5 => ?_)
  refine va_sld hx hb hX hbl hbA hS (fm_in (by omega)) dL_law_1073 ?_
  refine lv_topi (fun x6 ex6 => ?_)
  refine lv_aload_n hx hb dL_law_1074 rfl (lv_at hl 3 rfl) ?_
  refine lv_iload_n hx hb dL_law_1075 rfl (lv_at hl 0 rfl) ?_
  refine lv_iconst (v := 4) hx hb dL_law_1076 (by decide) ?_
  refine fx_iadd hx hb dL_law_1077 rfl zk_4 (by omega) (fun y7 ey7 ty7 => ?_)
  refine va_sld hx hb hX hbl hbA hS (fm_in (by omega)) dL_law_1078 ?_
  refine lv_topi (fun x8 ex8 => ?_)
  refine vp_callSi (va_Run.run (va_runV (As := [.int x2, .int x4, .int x6, .int x8]) (rest := []) ⟨hx, hb, hml, hown, hts⟩ (fc_X11_comes l D ad C nb M hI x2 x4 x6 x8) (cwV 4 hts gL_law_X11_comes rfl rfl rfl (by decide +kernel) ⟨Nat.le_of_ble_eq_true rfl, Nat.le_of_ble_eq_true rfl⟩) (fm_preV hc hw hS kl_0 sh_0 rfl) rfl rfl hl.1 rfl (lv_room (Nat.le_of_ble_eq_true rfl)) dL_law_1079 ⟨hk1, hs1⟩)) (fun r9 hr9 => ?_)
  refine lv_pop hx hb dL_law_1082 rfl ?_
  refine lv_aload_n hx hb dL_law_1083 rfl (lv_at hl 1 rfl) ?_
  refine lv_aload_n hx hb dL_law_1084 rfl (lv_at hl 3 rfl) ?_
  refine lv_iload_n hx hb dL_law_1085 rfl (lv_at hl 0 rfl) ?_
  refine lv_iconst (v := 1) hx hb dL_law_1086 (by decide) ?_
  refine fx_iadd hx hb dL_law_1087 rfl zk_1 (by omega) (fun y10 ey10 ty10 => ?_)
  refine va_sld hx hb hX hbl hbA hS (fm_in (by omega)) dL_law_1088 ?_
  refine lv_topi (fun x11 ex11 => ?_)
  have qx11 : x2 = x11 := by rw [ex11, ex2, ey10, ey1]
  clear ex11
  subst qx11
  refine lv_aload_n hx hb dL_law_1089 rfl (lv_at hl 3 rfl) ?_
  refine lv_iload_n hx hb dL_law_1090 rfl (lv_at hl 0 rfl) ?_
  refine lv_iconst (v := 2) hx hb dL_law_1091 (by decide) ?_
  refine fx_iadd hx hb dL_law_1092 rfl zk_2 (by omega) (fun y12 ey12 ty12 => ?_)
  refine va_sld hx hb hX hbl hbA hS (fm_in (by omega)) dL_law_1093 ?_
  refine lv_topi (fun x13 ex13 => ?_)
  have qx13 : x4 = x13 := by rw [ex13, ex4, ey12, ey3]
  clear ex13
  subst qx13
  refine lv_aload_n hx hb dL_law_1094 rfl (lv_at hl 3 rfl) ?_
  refine lv_iload_n hx hb dL_law_1095 rfl (lv_at hl 0 rfl) ?_
  refine lv_iconst (v := 3) hx hb dL_law_1096 (by decide) ?_
  refine fx_iadd hx hb dL_law_1097 rfl zk_3 (by omega) (fun y14 ey14 ty14 => ?_)
  refine va_sld hx hb hX hbl hbA hS (fm_in (by omega)) dL_law_1098 ?_
  refine lv_topi (fun x15 ex15 => ?_)
  have qx15 : x6 = x15 := by rw [ex15, ex6, ey14, ey5]
  clear ex15
  subst qx15
  refine lv_aload_n hx hb dL_law_1099 rfl (lv_at hl 3 rfl) ?_
  refine lv_iload_n hx hb dL_law_1100 rfl (lv_at hl 0 rfl) ?_
  refine lv_iconst (v := 4) hx hb dL_law_1101 (by decide) ?_
  refine fx_iadd hx hb dL_law_1102 rfl zk_4 (by omega) (fun y16 ey16 ty16 => ?_)
  refine va_sld hx hb hX hbl hbA hS (fm_in (by omega)) dL_law_1103 ?_
  refine lv_topi (fun x17 ex17 => ?_)
  have qx17 : x8 = x17 := by rw [ex17, ex8, ey16, ey7]
  clear ex17
  subst qx17
  refine vp_callSi (va_Run.run (va_runV (As := [.int x2, .int x4, .int x6, .int x8]) (rest := []) ⟨hx, hb, hml, hown, hts⟩ (fc_X12_comes l D ad C nb M hI x2 x4 x6 x8) (cwV 4 hts gL_law_X12_comes rfl rfl rfl (by decide +kernel) ⟨Nat.le_of_ble_eq_true rfl, Nat.le_of_ble_eq_true rfl⟩) (fm_preV hc hw hS kl_60 sh_60 rfl) rfl rfl hl.1 rfl (lv_room (Nat.le_of_ble_eq_true rfl)) dL_law_1104 ⟨hk1, hs1⟩)) (fun r18 hr18 => ?_)
  refine lv_pop hx hb dL_law_1107 rfl ?_
  refine lv_goto (tgt := 1835) hx hb dL_law_1108 (by decide) ?_
  have hr90 : M.1 0 0 10 = M.1 60 0 16 := hrel.1
  have hr91 : M.1 0 0 9 = M.1 60 0 0 := hrel.2.1
  have hr92 : M.1 0 0 11 = M.1 60 0 21 := hrel.2.2.1
  have hr93 : (∀ j : Nat, j < nb → M.1 50 j 2 = M.1 111 0 j) := fun j hj => by exact hrel.2.2.2.1 j hj
  have hr94 : (∀ j : Nat, j < 4 → M.1 46 j 1 = M.1 175 0 j) := fun j hj => by exact hrel.2.2.2.2.1 j hj
  have hr95 : (∀ j : Nat, j < 4 → M.1 46 j 2 = M.1 176 0 j) := fun j hj => by exact hrel.2.2.2.2.2.1 j hj
  have hr96 : (∀ j : Nat, j < nb → M.1 50 j 0 = M.1 110 0 j) := fun j hj => by exact hrel.2.2.2.2.2.2.1 j hj
  have hr97 : (∀ j : Nat, j < nb → M.1 50 j 1 = M.1 112 0 j) := fun j hj => by exact hrel.2.2.2.2.2.2.2.1 j hj
  have hr98 : M.1 1 0 2 = M.1 60 0 5 := hrel.2.2.2.2.2.2.2.2.1
  have hs90 : (∀ s i : Nat, s < 4 → i < 40 → M.1 47 s i = M.1 177 0 (40 * s + i)) := fun s i hs hi => by exact hrel.2.2.2.2.2.2.2.2.2.1 s i hs hi
  have hs91_1 : rt_WN M := hrel.2.2.2.2.2.2.2.2.2.2.1
  have hs91 : rt_WN M := hs91_1
  have hs92_1 : rt_PC nb M := hrel.2.2.2.2.2.2.2.2.2.2.2.1
  have hs92 : rt_PC nb M := hs92_1
  have hs93_1 : rt_FB M := hrel.2.2.2.2.2.2.2.2.2.2.2.2.1
  have hs93 : rt_FB M := hs93_1
  have hs94 : (∀ j : Nat, j < nb → rt_nkM M j = rt_nmM M j) := by exact hrel.2.2.2.2.2.2.2.2.2.2.2.2.2
  have hrel9 : M.1 0 0 10 = M.1 60 0 16 ∧ M.1 0 0 9 = M.1 60 0 0 ∧ M.1 0 0 11 = M.1 60 0 21 ∧ (∀ j : Nat, j < nb → M.1 50 j 2 = M.1 111 0 j) ∧ (∀ j : Nat, j < 4 → M.1 46 j 1 = M.1 175 0 j) ∧ (∀ j : Nat, j < 4 → M.1 46 j 2 = M.1 176 0 j) ∧ (∀ j : Nat, j < nb → M.1 50 j 0 = M.1 110 0 j) ∧ (∀ j : Nat, j < nb → M.1 50 j 1 = M.1 112 0 j) ∧ M.1 1 0 2 = M.1 60 0 5 ∧ (∀ s i : Nat, s < 4 → i < 40 → M.1 47 s i = M.1 177 0 (40 * s + i)) ∧ rt_WN M ∧ rt_PC nb M ∧ rt_FB M ∧ (∀ j : Nat, j < nb → rt_nkM M j = rt_nmM M j) := ⟨hr90, hr91, hr92, hr93, hr94, hr95, hr96, hr97, hr98, hs90, hs91, hs92, hs93, hs94⟩
  exact kk M _ _ hw hI hS hrel9 ls (lv_sub hl [0, 1, 2, 3] rfl)

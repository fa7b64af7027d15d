theorem dL_law_820 : decode cL_law 820 = .ok (.aload_n 1, 1) := by decide +kernel
theorem dL_law_821 : decode cL_law 821 = .ok (.aload_n 0, 1) := by decide +kernel
theorem dL_law_822 : decode cL_law 822 = .ok (.iload_n 3, 1) := by decide +kernel
theorem dL_law_823 : decode cL_law 823 = .ok (.iconst 1, 1) := by decide +kernel
theorem dL_law_824 : decode cL_law 824 = .ok (.iadd, 1) := by decide +kernel
theorem dL_law_825 : decode cL_law 825 = .ok (.iaload, 1) := by decide +kernel
set_option maxRecDepth 20000 in
theorem gT_X11_isTrue : GoodIn lw_tbl wsX11_isTrue := goodIn_q _ [(3, 152), (2, 97), (1, 76), (3, 153), (3, 154), (3, 155), (1, 3), (3, 156), (1, 69), (1, 72), (1, 73), (1, 74), (3, 145), (3, 146), (3, 147), (3, 148), (2, 108), (2, 110), (2, 112), (2, 114), (2, 116), (2, 118), (2, 120), (2, 122), (2, 124), (2, 126), (2, 128), (2, 130), (2, 132), (1, 77), (1, 79), (1, 81), (1, 83), (1, 85), (1, 87), (1, 89), (1, 91), (1, 93), (1, 95), (1, 97), (1, 99), (1, 101)] (by decide +kernel) (by decide +kernel)
set_option maxRecDepth 20000 in
theorem gL_law_X11_isTrue : GoodIn lw_tbl (wsV RL 75 RX11 yX11_isTrue wsX11_isTrue) := goodIn_app (goodIn_q _ [(3, 149), (3, 150), (3, 151), (1, 1)] (by decide +kernel) (by decide +kernel)) gT_X11_isTrue
theorem dL_law_826 : decode cL_law 826 = .ok (.invokevirtual 75, 3) := by decide +kernel
theorem dL_law_829 : decode cL_law 829 = .ok (.aload_n 2, 1) := by decide +kernel
theorem dL_law_830 : decode cL_law 830 = .ok (.aload_n 0, 1) := by decide +kernel
theorem dL_law_831 : decode cL_law 831 = .ok (.iload_n 3, 1) := by decide +kernel
theorem dL_law_832 : decode cL_law 832 = .ok (.iconst 1, 1) := by decide +kernel
theorem dL_law_833 : decode cL_law 833 = .ok (.iadd, 1) := by decide +kernel
theorem dL_law_834 : decode cL_law 834 = .ok (.iaload, 1) := by decide +kernel
set_option maxRecDepth 20000 in
theorem gT_X12_isTrue : GoodIn lw_tbl wsX12_isTrue := goodIn_q _ [(6, 230), (5, 154), (5, 152), (5, 153), (5, 149), (5, 151), (6, 223), (6, 224), (1, 12), (6, 225), (6, 226), (5, 199), (5, 201), (5, 203), (5, 205), (5, 207), (5, 209), (5, 211), (5, 213), (5, 215), (5, 217), (5, 219), (5, 221), (5, 223), (5, 225), (5, 227), (5, 229), (5, 231), (5, 233), (5, 235), (5, 237), (5, 239), (6, 1), (6, 3), (6, 5), (6, 7), (6, 9), (6, 11), (6, 13), (6, 15), (6, 17), (6, 19), (6, 21), (6, 23), (6, 25), (6, 27), (6, 29), (6, 31), (6, 33), (6, 35), (6, 37), (6, 39), (6, 41), (6, 43), (6, 45), (6, 47), (6, 49), (6, 51), (6, 53), (6, 55), (6, 57), (6, 59), (6, 61), (6, 63), (6, 65), (6, 67), (6, 69), (6, 71), (6, 73), (6, 75), (6, 77), (6, 79), (6, 81), (6, 83), (6, 85), (6, 87), (6, 89), (6, 91), (6, 93), (6, 95), (6, 97), (6, 99), (6, 101), (6, 103), (6, 105), (6, 107), (6, 109), (6, 111), (6, 113), (6, 115)] (by decide +kernel) (by decide +kernel)
set_option maxRecDepth 20000 in
theorem gL_law_X12_isTrue : GoodIn lw_tbl (wsV RL 78 RX12 yX12_isTrue wsX12_isTrue) := goodIn_app (goodIn_q _ [(6, 227), (6, 228), (6, 229), (1, 12)] (by decide +kernel) (by decide +kernel)) gT_X12_isTrue
theorem dL_law_835 : decode cL_law 835 = .ok (.invokevirtual 78, 3) := by decide +kernel
theorem dL_law_838 : decode cL_law 838 = .ok (.if_icmp .eq 999, 3) := by decide +kernel
theorem dL_law_843 : decode cL_law 843 = .ok (.aload_n 1, 1) := by decide +kernel
theorem dL_law_844 : decode cL_law 844 = .ok (.aload_n 0, 1) := by decide +kernel
theorem dL_law_845 : decode cL_law 845 = .ok (.iload_n 3, 1) := by decide +kernel
theorem dL_law_846 : decode cL_law 846 = .ok (.iconst 1, 1) := by decide +kernel
theorem dL_law_847 : decode cL_law 847 = .ok (.iadd, 1) := by decide +kernel
theorem dL_law_848 : decode cL_law 848 = .ok (.iaload, 1) := by decide +kernel
theorem dL_law_849 : decode cL_law 849 = .ok (.i2l, 1) := by decide +kernel
theorem dL_law_850 : decode cL_law 850 = .ok (.bipush 32, 2) := by decide +kernel
theorem dL_law_852 : decode cL_law 852 = .ok (.lshl, 1) := by decide +kernel
theorem dL_law_853 : decode cL_law 853 = .ok (.aload_n 0, 1) := by decide +kernel
theorem dL_law_854 : decode cL_law 854 = .ok (.iload_n 3, 1) := by decide +kernel
theorem dL_law_855 : decode cL_law 855 = .ok (.iconst 2, 1) := by decide +kernel
theorem dL_law_856 : decode cL_law 856 = .ok (.iadd, 1) := by decide +kernel
theorem dL_law_857 : decode cL_law 857 = .ok (.iaload, 1) := by decide +kernel
theorem dL_law_858 : decode cL_law 858 = .ok (.i2l, 1) := by decide +kernel
theorem dL_law_859 : decode cL_law 859 = .ok (.ldc2_w 42, 3) := by decide +kernel
theorem dL_law_862 : decode cL_law 862 = .ok (.land, 1) := by decide +kernel
theorem dL_law_863 : decode cL_law 863 = .ok (.lor, 1) := by decide +kernel
set_option maxRecDepth 20000 in
theorem gT_X11_lane : GoodIn lw_tbl wsX11_lane := goodIn_q _ [(3, 160), (2, 98), (1, 113), (3, 161), (3, 162), (3, 163), (1, 4), (3, 164), (1, 111), (1, 112), (2, 108), (2, 110), (2, 112), (2, 114), (2, 116), (2, 118), (2, 120), (2, 122), (2, 124), (2, 126), (2, 128), (2, 130), (2, 132), (1, 120), (1, 122), (1, 124), (1, 126), (1, 128), (1, 130), (1, 132)] (by decide +kernel) (by decide +kernel)
set_option maxRecDepth 20000 in
theorem gL_law_X11_lane : GoodIn lw_tbl (wsV RL 79 RX11 yX11_lane wsX11_lane) := goodIn_app (goodIn_q _ [(3, 157), (3, 158), (3, 159), (1, 1)] (by decide +kernel) (by decide +kernel)) gT_X11_lane
theorem dL_law_864 : decode cL_law 864 = .ok (.invokevirtual 79, 3) := by decide +kernel
theorem dL_law_867 : decode cL_law 867 = .ok (.aload_n 2, 1) := by decide +kernel
theorem dL_law_868 : decode cL_law 868 = .ok (.aload_n 0, 1) := by decide +kernel
theorem dL_law_869 : decode cL_law 869 = .ok (.iload_n 3, 1) := by decide +kernel
theorem dL_law_870 : decode cL_law 870 = .ok (.iconst 1, 1) := by decide +kernel
theorem dL_law_871 : decode cL_law 871 = .ok (.iadd, 1) := by decide +kernel
theorem dL_law_872 : decode cL_law 872 = .ok (.iaload, 1) := by decide +kernel
theorem dL_law_873 : decode cL_law 873 = .ok (.i2l, 1) := by decide +kernel
theorem dL_law_874 : decode cL_law 874 = .ok (.bipush 32, 2) := by decide +kernel
theorem dL_law_876 : decode cL_law 876 = .ok (.lshl, 1) := by decide +kernel
theorem dL_law_877 : decode cL_law 877 = .ok (.aload_n 0, 1) := by decide +kernel
theorem dL_law_878 : decode cL_law 878 = .ok (.iload_n 3, 1) := by decide +kernel
theorem dL_law_879 : decode cL_law 879 = .ok (.iconst 2, 1) := by decide +kernel
theorem dL_law_880 : decode cL_law 880 = .ok (.iadd, 1) := by decide +kernel
theorem dL_law_881 : decode cL_law 881 = .ok (.iaload, 1) := by decide +kernel
theorem dL_law_882 : decode cL_law 882 = .ok (.i2l, 1) := by decide +kernel
theorem dL_law_883 : decode cL_law 883 = .ok (.ldc2_w 42, 3) := by decide +kernel
theorem dL_law_886 : decode cL_law 886 = .ok (.land, 1) := by decide +kernel
theorem dL_law_887 : decode cL_law 887 = .ok (.lor, 1) := by decide +kernel
set_option maxRecDepth 20000 in
theorem gT_X12_lane : GoodIn lw_tbl wsX12_lane := goodIn_q _ [(6, 234), (5, 156), (5, 155), (5, 199), (5, 201), (5, 203), (5, 205), (5, 207), (5, 209), (5, 211), (5, 213), (5, 215), (5, 217), (5, 219), (5, 221), (5, 223), (5, 225), (5, 227), (5, 229), (5, 231), (5, 233), (5, 235), (5, 237), (5, 239), (6, 1), (6, 3), (6, 5), (6, 7), (6, 9), (6, 11), (6, 13), (6, 15), (6, 17), (6, 19), (6, 21), (6, 23), (6, 25), (6, 27), (6, 29), (6, 31), (6, 33), (6, 35), (6, 37), (6, 39), (6, 41), (6, 43), (6, 45), (6, 47), (6, 49), (6, 51), (6, 53), (6, 55), (6, 57), (6, 59), (6, 61), (6, 63), (6, 65), (6, 67), (6, 69), (6, 71), (6, 73), (6, 75), (6, 77), (6, 79), (6, 81), (6, 83), (6, 85), (6, 87), (6, 89), (6, 91), (6, 93), (6, 95), (6, 97), (6, 99), (6, 101), (6, 103), (6, 105), (6, 107), (6, 109), (6, 111), (6, 113), (6, 115)] (by decide +kernel) (by decide +kernel)
set_option maxRecDepth 20000 in
theorem gL_law_X12_lane : GoodIn lw_tbl (wsV RL 83 RX12 yX12_lane wsX12_lane) := goodIn_app (goodIn_q _ [(6, 231), (6, 232), (6, 233), (1, 12)] (by decide +kernel) (by decide +kernel)) gT_X12_lane
theorem dL_law_888 : decode cL_law 888 = .ok (.invokevirtual 83, 3) := by decide +kernel
theorem dL_law_891 : decode cL_law 891 = .ok (.if_icmp .eq 946, 3) := by decide +kernel
theorem dL_law_896 : decode cL_law 896 = .ok (.aload_n 1, 1) := by decide +kernel
theorem dL_law_897 : decode cL_law 897 = .ok (.aload_n 0, 1) := by decide +kernel
theorem dL_law_898 : decode cL_law 898 = .ok (.iload_n 3, 1) := by decide +kernel
theorem dL_law_899 : decode cL_law 899 = .ok (.iconst 1, 1) := by decide +kernel
theorem dL_law_900 : decode cL_law 900 = .ok (.iadd, 1) := by decide +kernel
theorem dL_law_901 : decode cL_law 901 = .ok (.iaload, 1) := by decide +kernel
theorem dL_law_902 : decode cL_law 902 = .ok (.aload_n 0, 1) := by decide +kernel
theorem dL_law_903 : decode cL_law 903 = .ok (.iload_n 3, 1) := by decide +kernel
theorem dL_law_904 : decode cL_law 904 = .ok (.iconst 2, 1) := by decide +kernel
theorem dL_law_905 : decode cL_law 905 = .ok (.iadd, 1) := by decide +kernel
theorem dL_law_906 : decode cL_law 906 = .ok (.iaload, 1) := by decide +kernel
theorem dL_law_907 : decode cL_law 907 = .ok (.aload_n 0, 1) := by decide +kernel
theorem dL_law_908 : decode cL_law 908 = .ok (.iload_n 3, 1) := by decide +kernel
theorem dL_law_909 : decode cL_law 909 = .ok (.iconst 3, 1) := by decide +kernel
theorem dL_law_910 : decode cL_law 910 = .ok (.iadd, 1) := by decide +kernel
theorem dL_law_911 : decode cL_law 911 = .ok (.iaload, 1) := by decide +kernel
set_option maxRecDepth 20000 in
theorem gT_X11_flown : GoodIn lw_tbl wsX11_flown := goodIn_q _ [(3, 168), (2, 98), (1, 113), (2, 225), (2, 104), (2, 139), (2, 141), (0, 0), (1, 1), (2, 142), (2, 105), (2, 96), (3, 169), (3, 171), (0, 3), (3, 172), (3, 173), (3, 174), (3, 175), (1, 18), (3, 176), (2, 203), (3, 179), (3, 180), (3, 181), (3, 182), (2, 219), (2, 224), (2, 221), (2, 108), (2, 110), (2, 112), (2, 114), (2, 116), (2, 118), (2, 120), (2, 122), (2, 124), (2, 126), (2, 128), (2, 130), (2, 132), (1, 120), (1, 122), (1, 124), (1, 126), (1, 128), (1, 130), (1, 132), (2, 228), (2, 230), (2, 232), (2, 234), (2, 236), (2, 238), (3, 0), (3, 2), (3, 4), (3, 6), (3, 8), (3, 10), (3, 12), (3, 14), (3, 16)] (by decide +kernel) (by decide +kernel)
set_option maxRecDepth 20000 in
theorem gL_law_X11_flown : GoodIn lw_tbl (wsV RL 84 RX11 yX11_flown wsX11_flown) := goodIn_app (goodIn_q _ [(3, 165), (3, 166), (3, 167), (1, 1)] (by decide +kernel) (by decide +kernel)) gT_X11_flown
theorem dL_law_912 : decode cL_law 912 = .ok (.invokevirtual 84, 3) := by decide +kernel
theorem dL_law_915 : decode cL_law 915 = .ok (.aload_n 2, 1) := by decide +kernel
theorem dL_law_916 : decode cL_law 916 = .ok (.aload_n 0, 1) := by decide +kernel
theorem dL_law_917 : decode cL_law 917 = .ok (.iload_n 3, 1) := by decide +kernel
theorem dL_law_918 : decode cL_law 918 = .ok (.iconst 1, 1) := by decide +kernel
theorem dL_law_919 : decode cL_law 919 = .ok (.iadd, 1) := by decide +kernel
theorem dL_law_920 : decode cL_law 920 = .ok (.iaload, 1) := by decide +kernel
theorem dL_law_921 : decode cL_law 921 = .ok (.aload_n 0, 1) := by decide +kernel
theorem dL_law_922 : decode cL_law 922 = .ok (.iload_n 3, 1) := by decide +kernel
theorem dL_law_923 : decode cL_law 923 = .ok (.iconst 2, 1) := by decide +kernel
theorem dL_law_924 : decode cL_law 924 = .ok (.iadd, 1) := by decide +kernel
theorem dL_law_925 : decode cL_law 925 = .ok (.iaload, 1) := by decide +kernel
theorem dL_law_926 : decode cL_law 926 = .ok (.aload_n 0, 1) := by decide +kernel
theorem dL_law_927 : decode cL_law 927 = .ok (.iload_n 3, 1) := by decide +kernel
theorem dL_law_928 : decode cL_law 928 = .ok (.iconst 3, 1) := by decide +kernel
theorem dL_law_929 : decode cL_law 929 = .ok (.iadd, 1) := by decide +kernel
theorem dL_law_930 : decode cL_law 930 = .ok (.iaload, 1) := by decide +kernel
set_option maxRecDepth 20000 in
theorem gT_X12_flown : GoodIn lw_tbl wsX12_flown := goodIn_q _ [(6, 238), (5, 156), (5, 159), (5, 157), (5, 158), (5, 120), (6, 239), (7, 1), (0, 37), (1, 12), (7, 2), (5, 130), (6, 151), (6, 153), (0, 30), (6, 154), (5, 136), (7, 3), (7, 5), (0, 38), (7, 6), (5, 129), (5, 126), (5, 127), (5, 128), (5, 199), (5, 201), (5, 203), (5, 205), (5, 207), (5, 209), (5, 211), (5, 213), (5, 215), (5, 217), (5, 219), (5, 221), (5, 223), (5, 225), (5, 227), (5, 229), (5, 231), (5, 233), (5, 235), (5, 237), (5, 239), (6, 1), (6, 3), (6, 5), (6, 7), (6, 9), (6, 11), (6, 13), (6, 15), (6, 17), (6, 19), (6, 21), (6, 23), (6, 25), (6, 27), (6, 29), (6, 31), (6, 33), (6, 35), (6, 37), (6, 39), (6, 41), (6, 43), (6, 45), (6, 47), (6, 49), (6, 51), (6, 53), (6, 55), (6, 57), (6, 59), (6, 61), (6, 63), (6, 65), (6, 67), (6, 69), (6, 71), (6, 73), (6, 75), (6, 77), (6, 79), (6, 81), (6, 83), (6, 85), (6, 87), (6, 89), (6, 91), (6, 93), (6, 95), (6, 97), (6, 99), (6, 101), (6, 103), (6, 105), (6, 107), (6, 109), (6, 111), (6, 113), (6, 115)] (by decide +kernel) (by decide +kernel)
set_option maxRecDepth 20000 in
theorem gL_law_X12_flown : GoodIn lw_tbl (wsV RL 87 RX12 yX12_flown wsX12_flown) := goodIn_app (goodIn_q _ [(6, 235), (6, 236), (6, 237), (1, 12)] (by decide +kernel) (by decide +kernel)) gT_X12_flown
theorem dL_law_931 : decode cL_law 931 = .ok (.invokevirtual 87, 3) := by decide +kernel
theorem dL_law_934 : decode cL_law 934 = .ok (.if_icmp .eq 903, 3) := by decide +kernel
theorem dL_law_939 : decode cL_law 939 = .ok (.aload_n 1, 1) := by decide +kernel
theorem dL_law_940 : decode cL_law 940 = .ok (.aload_n 0, 1) := by decide +kernel
theorem dL_law_941 : decode cL_law 941 = .ok (.iload_n 3, 1) := by decide +kernel
theorem dL_law_942 : decode cL_law 942 = .ok (.iconst 1, 1) := by decide +kernel
theorem dL_law_943 : decode cL_law 943 = .ok (.iadd, 1) := by decide +kernel
theorem dL_law_944 : decode cL_law 944 = .ok (.iaload, 1) := by decide +kernel
theorem dL_law_945 : decode cL_law 945 = .ok (.aload_n 0, 1) := by decide +kernel
theorem dL_law_946 : decode cL_law 946 = .ok (.iload_n 3, 1) := by decide +kernel
theorem dL_law_947 : decode cL_law 947 = .ok (.iconst 2, 1) := by decide +kernel
theorem dL_law_948 : decode cL_law 948 = .ok (.iadd, 1) := by decide +kernel
theorem dL_law_949 : decode cL_law 949 = .ok (.iaload, 1) := by decide +kernel
theorem dL_law_950 : decode cL_law 950 = .ok (.aload_n 0, 1) := by decide +kernel
theorem dL_law_951 : decode cL_law 951 = .ok (.iload_n 3, 1) := by decide +kernel
theorem dL_law_952 : decode cL_law 952 = .ok (.iconst 3, 1) := by decide +kernel
theorem dL_law_953 : decode cL_law 953 = .ok (.iadd, 1) := by decide +kernel
theorem dL_law_954 : decode cL_law 954 = .ok (.iaload, 1) := by decide +kernel
set_option maxRecDepth 20000 in
theorem gT_X11_share : GoodIn lw_tbl wsX11_share := goodIn_q _ [(3, 186), (3, 42), (2, 98), (2, 95), (2, 104), (2, 139), (2, 141), (0, 0), (1, 1), (2, 142), (2, 105), (2, 96), (2, 195), (2, 196), (2, 197), (3, 187), (3, 48), (3, 49), (1, 18), (3, 50), (2, 207), (2, 227), (2, 205), (2, 226), (2, 218), (2, 155), (2, 156), (1, 17), (2, 157), (3, 51), (3, 52), (3, 53), (3, 54), (2, 203), (3, 55), (3, 56), (3, 57), (1, 2), (3, 58), (1, 35), (3, 60), (3, 61), (3, 62), (3, 64), (3, 65), (3, 66), (3, 68), (0, 2), (3, 69), (2, 215), (2, 217), (3, 188), (3, 189), (3, 190), (1, 4), (3, 191), (1, 115), (1, 114), (3, 126), (3, 127), (3, 193), (3, 195), (0, 4), (3, 196), (2, 223), (1, 111), (2, 220), (2, 222), (3, 201), (3, 197), (3, 198), (3, 199), (3, 200), (1, 36), (3, 202), (3, 203), (3, 204), (3, 205), (3, 206), (3, 207), (3, 208), (2, 108), (2, 110), (2, 112), (2, 114), (2, 116), (2, 118), (2, 120), (2, 122), (2, 124), (2, 126), (2, 128), (2, 130), (2, 132), (2, 228), (2, 230), (2, 232), (2, 234), (2, 236), (2, 238), (3, 0), (3, 2), (3, 4), (3, 6), (3, 8), (3, 10), (3, 12), (3, 14), (3, 16), (1, 41), (1, 43), (1, 45), (1, 47), (1, 120), (1, 122), (1, 124), (1, 126), (1, 128), (1, 130), (1, 132)] (by decide +kernel) (by decide +kernel)
set_option maxRecDepth 20000 in
theorem gL_law_X11_share : GoodIn lw_tbl (wsV RL 88 RX11 yX11_share wsX11_share) := goodIn_app (goodIn_q _ [(3, 183), (3, 184), (3, 185), (1, 1)] (by decide +kernel) (by decide +kernel)) gT_X11_share
theorem dL_law_955 : decode cL_law 955 = .ok (.invokevirtual 88, 3) := by decide +kernel
theorem dL_law_958 : decode cL_law 958 = .ok (.aload_n 2, 1) := by decide +kernel
theorem dL_law_959 : decode cL_law 959 = .ok (.aload_n 0, 1) := by decide +kernel
theorem dL_law_960 : decode cL_law 960 = .ok (.iload_n 3, 1) := by decide +kernel
theorem dL_law_961 : decode cL_law 961 = .ok (.iconst 1, 1) := by decide +kernel
theorem dL_law_962 : decode cL_law 962 = .ok (.iadd, 1) := by decide +kernel
theorem dL_law_963 : decode cL_law 963 = .ok (.iaload, 1) := by decide +kernel
theorem dL_law_964 : decode cL_law 964 = .ok (.aload_n 0, 1) := by decide +kernel
theorem dL_law_965 : decode cL_law 965 = .ok (.iload_n 3, 1) := by decide +kernel
theorem dL_law_966 : decode cL_law 966 = .ok (.iconst 2, 1) := by decide +kernel
theorem dL_law_967 : decode cL_law 967 = .ok (.iadd, 1) := by decide +kernel
theorem dL_law_968 : decode cL_law 968 = .ok (.iaload, 1) := by decide +kernel
theorem dL_law_969 : decode cL_law 969 = .ok (.aload_n 0, 1) := by decide +kernel
theorem dL_law_970 : decode cL_law 970 = .ok (.iload_n 3, 1) := by decide +kernel
theorem dL_law_971 : decode cL_law 971 = .ok (.iconst 3, 1) := by decide +kernel
theorem dL_law_972 : decode cL_law 972 = .ok (.iadd, 1) := by decide +kernel
theorem dL_law_973 : decode cL_law 973 = .ok (.iaload, 1) := by decide +kernel
set_option maxRecDepth 20000 in
theorem gT_X12_share : GoodIn lw_tbl wsX12_share := goodIn_q _ [(7, 10), (6, 163), (5, 177), (5, 178), (6, 151), (6, 153), (0, 30), (1, 12), (6, 154), (5, 136), (6, 144), (6, 145), (6, 146), (6, 122), (6, 123), (6, 124), (7, 11), (7, 13), (0, 39), (7, 14), (5, 120), (5, 159), (5, 155), (5, 157), (5, 158), (7, 15), (6, 164), (6, 166), (0, 32), (6, 167), (5, 131), (5, 132), (6, 168), (6, 170), (0, 33), (6, 171), (5, 141), (5, 137), (5, 138), (5, 140), (5, 139), (6, 172), (6, 173), (6, 175), (0, 34), (6, 176), (5, 125), (5, 122), (5, 123), (5, 124), (5, 130), (7, 16), (7, 17), (7, 18), (5, 199), (5, 201), (5, 203), (5, 205), (5, 207), (5, 209), (5, 211), (5, 213), (5, 215), (5, 217), (5, 219), (5, 221), (5, 223), (5, 225), (5, 227), (5, 229), (5, 231), (5, 233), (5, 235), (5, 237), (5, 239), (6, 1), (6, 3), (6, 5), (6, 7), (6, 9), (6, 11), (6, 13), (6, 15), (6, 17), (6, 19), (6, 21), (6, 23), (6, 25), (6, 27), (6, 29), (6, 31), (6, 33), (6, 35), (6, 37), (6, 39), (6, 41), (6, 43), (6, 45), (6, 47), (6, 49), (6, 51), (6, 53), (6, 55), (6, 57), (6, 59), (6, 61), (6, 63), (6, 65), (6, 67), (6, 69), (6, 71), (6, 73), (6, 75), (6, 77), (6, 79), (6, 81), (6, 83), (6, 85), (6, 87), (6, 89), (6, 91), (6, 93), (6, 95), (6, 97), (6, 99), (6, 101), (6, 103), (6, 105), (6, 107), (6, 109), (6, 111), (6, 113), (6, 115)] (by decide +kernel) (by decide +kernel)
set_option maxRecDepth 20000 in
theorem gL_law_X12_share : GoodIn lw_tbl (wsV RL 91 RX12 yX12_share wsX12_share) := goodIn_app (goodIn_q _ [(7, 7), (7, 8), (7, 9), (1, 12)] (by decide +kernel) (by decide +kernel)) gT_X12_share
theorem dL_law_974 : decode cL_law 974 = .ok (.invokevirtual 91, 3) := by decide +kernel
theorem dL_law_977 : decode cL_law 977 = .ok (.lcmp, 1) := by decide +kernel
theorem dL_law_978 : decode cL_law 978 = .ok (.ifCond .eq 859, 3) := by decide +kernel
theorem dL_law_983 : decode cL_law 983 = .ok (.aload_n 1, 1) := by decide +kernel
theorem dL_law_984 : decode cL_law 984 = .ok (.aload_n 0, 1) := by decide +kernel
theorem dL_law_985 : decode cL_law 985 = .ok (.iload_n 3, 1) := by decide +kernel
theorem dL_law_986 : decode cL_law 986 = .ok (.iconst 1, 1) := by decide +kernel
theorem dL_law_987 : decode cL_law 987 = .ok (.iadd, 1) := by decide +kernel
theorem dL_law_988 : decode cL_law 988 = .ok (.iaload, 1) := by decide +kernel
theorem dL_law_989 : decode cL_law 989 = .ok (.aload_n 0, 1) := by decide +kernel
theorem dL_law_990 : decode cL_law 990 = .ok (.iload_n 3, 1) := by decide +kernel
theorem dL_law_991 : decode cL_law 991 = .ok (.iconst 2, 1) := by decide +kernel
theorem dL_law_992 : decode cL_law 992 = .ok (.iadd, 1) := by decide +kernel
theorem dL_law_993 : decode cL_law 993 = .ok (.iaload, 1) := by decide +kernel
theorem dL_law_994 : decode cL_law 994 = .ok (.aload_n 0, 1) := by decide +kernel
theorem dL_law_995 : decode cL_law 995 = .ok (.iload_n 3, 1) := by decide +kernel
theorem dL_law_996 : decode cL_law 996 = .ok (.iconst 3, 1) := by decide +kernel
theorem dL_law_997 : decode cL_law 997 = .ok (.iadd, 1) := by decide +kernel
theorem dL_law_998 : decode cL_law 998 = .ok (.iaload, 1) := by decide +kernel
theorem dL_law_999 : decode cL_law 999 = .ok (.aload_n 0, 1) := by decide +kernel
theorem dL_law_1000 : decode cL_law 1000 = .ok (.iload_n 3, 1) := by decide +kernel
theorem dL_law_1001 : decode cL_law 1001 = .ok (.iconst 4, 1) := by decide +kernel
theorem dL_law_1002 : decode cL_law 1002 = .ok (.iadd, 1) := by decide +kernel
theorem dL_law_1003 : decode cL_law 1003 = .ok (.iaload, 1) := by decide +kernel
set_option maxRecDepth 20000 in
theorem gT_X11_parted : GoodIn lw_tbl wsX11_parted := goodIn_q _ [(3, 212), (2, 98), (1, 113), (2, 95), (2, 104), (1, 118), (2, 139), (2, 141), (0, 0), (1, 1), (2, 142), (2, 105), (2, 96), (3, 213), (3, 215), (0, 5), (3, 216), (3, 217), (3, 218), (1, 19), (3, 219), (3, 220), (3, 221), (3, 222), (3, 169), (3, 171), (0, 3), (3, 172), (3, 173), (3, 174), (3, 175), (1, 18), (3, 176), (2, 203), (3, 187), (3, 48), (3, 49), (3, 50), (2, 207), (2, 227), (2, 205), (2, 226), (2, 218), (2, 155), (2, 156), (1, 17), (2, 157), (3, 51), (3, 52), (3, 53), (3, 54), (3, 55), (3, 56), (3, 57), (1, 2), (3, 58), (1, 35), (3, 60), (3, 61), (3, 62), (3, 64), (3, 65), (3, 66), (3, 68), (0, 2), (3, 69), (2, 215), (2, 217), (3, 188), (3, 189), (3, 190), (1, 4), (3, 191), (1, 115), (1, 114), (3, 126), (3, 127), (3, 193), (3, 195), (0, 4), (3, 196), (2, 223), (1, 111), (2, 220), (2, 222), (3, 201), (3, 197), (3, 198), (3, 199), (3, 200), (1, 36), (3, 223), (3, 224), (3, 225), (3, 226), (3, 227), (1, 119), (3, 228), (3, 230), (0, 6), (3, 231), (1, 112), (1, 116), (3, 232), (3, 234), (0, 7), (3, 235), (1, 117), (3, 236), (3, 238), (3, 237), (1, 20), (3, 239), (4, 0), (4, 1), (4, 2), (4, 3), (2, 108), (2, 110), (2, 112), (2, 114), (2, 116), (2, 118), (2, 120), (2, 122), (2, 124), (2, 126), (2, 128), (2, 130), (2, 132), (1, 120), (1, 122), (1, 124), (1, 126), (1, 128), (1, 130), (1, 132), (2, 228), (2, 230), (2, 232), (2, 234), (2, 236), (2, 238), (3, 0), (3, 2), (3, 4), (3, 6), (3, 8), (3, 10), (3, 12), (3, 14), (3, 16), (1, 41), (1, 43), (1, 45), (1, 47)] (by decide +kernel) (by decide +kernel)
set_option maxRecDepth 20000 in
theorem gL_law_X11_parted : GoodIn lw_tbl (wsV RL 92 RX11 yX11_parted wsX11_parted) := goodIn_app (goodIn_q _ [(3, 209), (3, 210), (3, 211), (1, 1)] (by decide +kernel) (by decide +kernel)) gT_X11_parted
theorem dL_law_1004 : decode cL_law 1004 = .ok (.invokevirtual 92, 3) := by decide +kernel
theorem dL_law_1007 : decode cL_law 1007 = .ok (.aload_n 2, 1) := by decide +kernel
theorem dL_law_1008 : decode cL_law 1008 = .ok (.aload_n 0, 1) := by decide +kernel
theorem dL_law_1009 : decode cL_law 1009 = .ok (.iload_n 3, 1) := by decide +kernel
theorem dL_law_1010 : decode cL_law 1010 = .ok (.iconst 1, 1) := by decide +kernel
theorem dL_law_1011 : decode cL_law 1011 = .ok (.iadd, 1) := by decide +kernel
theorem dL_law_1012 : decode cL_law 1012 = .ok (.iaload, 1) := by decide +kernel
theorem dL_law_1013 : decode cL_law 1013 = .ok (.aload_n 0, 1) := by decide +kernel
theorem dL_law_1014 : decode cL_law 1014 = .ok (.iload_n 3, 1) := by decide +kernel
theorem dL_law_1015 : decode cL_law 1015 = .ok (.iconst 2, 1) := by decide +kernel
theorem dL_law_1016 : decode cL_law 1016 = .ok (.iadd, 1) := by decide +kernel
theorem dL_law_1017 : decode cL_law 1017 = .ok (.iaload, 1) := by decide +kernel
theorem dL_law_1018 : decode cL_law 1018 = .ok (.aload_n 0, 1) := by decide +kernel
theorem dL_law_1019 : decode cL_law 1019 = .ok (.iload_n 3, 1) := by decide +kernel
theorem dL_law_1020 : decode cL_law 1020 = .ok (.iconst 3, 1) := by decide +kernel
theorem dL_law_1021 : decode cL_law 1021 = .ok (.iadd, 1) := by decide +kernel
theorem dL_law_1022 : decode cL_law 1022 = .ok (.iaload, 1) := by decide +kernel
theorem dL_law_1023 : decode cL_law 1023 = .ok (.aload_n 0, 1) := by decide +kernel
theorem dL_law_1024 : decode cL_law 1024 = .ok (.iload_n 3, 1) := by decide +kernel
theorem dL_law_1025 : decode cL_law 1025 = .ok (.iconst 4, 1) := by decide +kernel
theorem dL_law_1026 : decode cL_law 1026 = .ok (.iadd, 1) := by decide +kernel
theorem dL_law_1027 : decode cL_law 1027 = .ok (.iaload, 1) := by decide +kernel
set_option maxRecDepth 20000 in
theorem gT_X12_parted : GoodIn lw_tbl wsX12_parted := goodIn_q _ [(7, 22), (5, 136), (5, 156), (6, 172), (5, 181), (5, 180), (5, 178), (7, 30), (6, 151), (6, 153), (0, 30), (1, 12), (6, 154), (7, 23), (7, 24), (7, 25), (6, 239), (7, 1), (0, 37), (7, 2), (5, 130), (6, 122), (6, 123), (6, 124), (7, 11), (7, 13), (0, 39), (7, 14), (5, 120), (5, 159), (5, 155), (5, 157), (5, 158), (7, 15), (5, 177), (6, 164), (6, 166), (0, 32), (6, 167), (5, 131), (5, 132), (6, 168), (6, 170), (0, 33), (6, 171), (5, 141), (5, 137), (5, 138), (5, 140), (5, 139), (6, 173), (6, 175), (0, 34), (6, 176), (5, 125), (5, 122), (5, 123), (5, 124), (7, 26), (7, 28), (0, 40), (7, 29), (5, 179), (5, 199), (5, 201), (5, 203), (5, 205), (5, 207), (5, 209), (5, 211), (5, 213), (5, 215), (5, 217), (5, 219), (5, 221), (5, 223), (5, 225), (5, 227), (5, 229), (5, 231), (5, 233), (5, 235), (5, 237), (5, 239), (6, 1), (6, 3), (6, 5), (6, 7), (6, 9), (6, 11), (6, 13), (6, 15), (6, 17), (6, 19), (6, 21), (6, 23), (6, 25), (6, 27), (6, 29), (6, 31), (6, 33), (6, 35), (6, 37), (6, 39), (6, 41), (6, 43), (6, 45), (6, 47), (6, 49), (6, 51), (6, 53), (6, 55), (6, 57), (6, 59), (6, 61), (6, 63), (6, 65), (6, 67), (6, 69), (6, 71), (6, 73), (6, 75), (6, 77), (6, 79), (6, 81), (6, 83), (6, 85), (6, 87), (6, 89), (6, 91), (6, 93), (6, 95), (6, 97), (6, 99), (6, 101), (6, 103), (6, 105), (6, 107), (6, 109), (6, 111), (6, 113), (6, 115)] (by decide +kernel) (by decide +kernel)
set_option maxRecDepth 20000 in
theorem gL_law_X12_parted : GoodIn lw_tbl (wsV RL 95 RX12 yX12_parted wsX12_parted) := goodIn_app (goodIn_q _ [(7, 19), (7, 20), (7, 21), (1, 12)] (by decide +kernel) (by decide +kernel)) gT_X12_parted
theorem dL_law_1028 : decode cL_law 1028 = .ok (.invokevirtual 95, 3) := by decide +kernel
theorem dL_law_1031 : decode cL_law 1031 = .ok (.if_icmp .eq 806, 3) := by decide +kernel
theorem dL_law_1036 : decode cL_law 1036 = .ok (.aload_n 1, 1) := by decide +kernel
theorem dL_law_1037 : decode cL_law 1037 = .ok (.aload_n 0, 1) := by decide +kernel
theorem dL_law_1038 : decode cL_law 1038 = .ok (.iload_n 3, 1) := by decide +kernel
theorem dL_law_1039 : decode cL_law 1039 = .ok (.iconst 1, 1) := by decide +kernel
theorem dL_law_1040 : decode cL_law 1040 = .ok (.iadd, 1) := by decide +kernel
theorem dL_law_1041 : decode cL_law 1041 = .ok (.iaload, 1) := by decide +kernel
set_option maxRecDepth 20000 in
theorem gT_X11_stays : GoodIn lw_tbl wsX11_stays := goodIn_q _ [(4, 7), (2, 107), (2, 108), (2, 110), (2, 112), (2, 114), (2, 116), (2, 118), (2, 120), (2, 122), (2, 124), (2, 126), (2, 128), (2, 130), (2, 132)] (by decide +kernel) (by decide +kernel)
set_option maxRecDepth 20000 in
theorem gL_law_X11_stays : GoodIn lw_tbl (wsV RL 96 RX11 yX11_stays wsX11_stays) := goodIn_app (goodIn_q _ [(4, 4), (4, 5), (4, 6), (1, 1)] (by decide +kernel) (by decide +kernel)) gT_X11_stays
theorem dL_law_1042 : decode cL_law 1042 = .ok (.invokevirtual 96, 3) := by decide +kernel
theorem dL_law_1045 : decode cL_law 1045 = .ok (.aload_n 2, 1) := by decide +kernel
theorem dL_law_1046 : decode cL_law 1046 = .ok (.aload_n 0, 1) := by decide +kernel
theorem dL_law_1047 : decode cL_law 1047 = .ok (.iload_n 3, 1) := by decide +kernel
theorem dL_law_1048 : decode cL_law 1048 = .ok (.iconst 1, 1) := by decide +kernel
theorem dL_law_1049 : decode cL_law 1049 = .ok (.iadd, 1) := by decide +kernel
theorem dL_law_1050 : decode cL_law 1050 = .ok (.iaload, 1) := by decide +kernel
set_option maxRecDepth 20000 in
theorem gT_X12_stays : GoodIn lw_tbl wsX12_stays := goodIn_q _ [(7, 34), (5, 121), (6, 122), (6, 123), (1, 12), (6, 124), (5, 199), (5, 201), (5, 203), (5, 205), (5, 207), (5, 209), (5, 211), (5, 213), (5, 215), (5, 217), (5, 219), (5, 221), (5, 223), (5, 225), (5, 227), (5, 229), (5, 231), (5, 233), (5, 235), (5, 237), (5, 239), (6, 1), (6, 3), (6, 5), (6, 7), (6, 9), (6, 11), (6, 13), (6, 15), (6, 17), (6, 19), (6, 21), (6, 23), (6, 25), (6, 27), (6, 29), (6, 31), (6, 33), (6, 35), (6, 37), (6, 39), (6, 41), (6, 43), (6, 45), (6, 47), (6, 49), (6, 51), (6, 53), (6, 55), (6, 57), (6, 59), (6, 61), (6, 63), (6, 65), (6, 67), (6, 69), (6, 71), (6, 73), (6, 75), (6, 77), (6, 79), (6, 81), (6, 83), (6, 85), (6, 87), (6, 89), (6, 91), (6, 93), (6, 95), (6, 97), (6, 99), (6, 101), (6, 103), (6, 105), (6, 107), (6, 109), (6, 111), (6, 113), (6, 115)] (by decide +kernel) (by decide +kernel)
set_option maxRecDepth 20000 in
theorem gL_law_X12_stays : GoodIn lw_tbl (wsV RL 99 RX12 yX12_stays wsX12_stays) := goodIn_app (goodIn_q _ [(7, 31), (7, 32), (7, 33), (1, 12)] (by decide +kernel) (by decide +kernel)) gT_X12_stays
theorem dL_law_1051 : decode cL_law 1051 = .ok (.invokevirtual 99, 3) := by decide +kernel
theorem dL_law_1054 : decode cL_law 1054 = .ok (.if_icmp .eq 783, 3) := by decide +kernel
theorem dL_law_1059 : decode cL_law 1059 = .ok (.aload_n 1, 1) := by decide +kernel
theorem dL_law_1060 : decode cL_law 1060 = .ok (.aload_n 0, 1) := by decide +kernel
theorem dL_law_1061 : decode cL_law 1061 = .ok (.iload_n 3, 1) := by decide +kernel
theorem dL_law_1062 : decode cL_law 1062 = .ok (.iconst 1, 1) := by decide +kernel
theorem dL_law_1063 : decode cL_law 1063 = .ok (.iadd, 1) := by decide +kernel
theorem dL_law_1064 : decode cL_law 1064 = .ok (.iaload, 1) := by decide +kernel
theorem dL_law_1065 : decode cL_law 1065 = .ok (.aload_n 0, 1) := by decide +kernel
theorem dL_law_1066 : decode cL_law 1066 = .ok (.iload_n 3, 1) := by decide +kernel
theorem dL_law_1067 : decode cL_law 1067 = .ok (.iconst 2, 1) := by decide +kernel
theorem dL_law_1068 : decode cL_law 1068 = .ok (.iadd, 1) := by decide +kernel
theorem dL_law_1069 : decode cL_law 1069 = .ok (.iaload, 1) := by decide +kernel
theorem dL_law_1070 : decode cL_law 1070 = .ok (.aload_n 0, 1) := by decide +kernel
theorem dL_law_1071 : decode cL_law 1071 = .ok (.iload_n 3, 1) := by decide +kernel
theorem dL_law_1072 : decode cL_law 1072 = .ok (.iconst 3, 1) := by decide +kernel
theorem dL_law_1073 : decode cL_law 1073 = .ok (.iadd, 1) := by decide +kernel
theorem dL_law_1074 : decode cL_law 1074 = .ok (.iaload, 1) := by decide +kernel
theorem dL_law_1075 : decode cL_law 1075 = .ok (.aload_n 0, 1) := by decide +kernel
theorem dL_law_1076 : decode cL_law 1076 = .ok (.iload_n 3, 1) := by decide +kernel
theorem dL_law_1077 : decode cL_law 1077 = .ok (.iconst 4, 1) := by decide +kernel
theorem dL_law_1078 : decode cL_law 1078 = .ok (.iadd, 1) := by decide +kernel
theorem dL_law_1079 : decode cL_law 1079 = .ok (.iaload, 1) := by decide +kernel
set_option maxRecDepth 20000 in
theorem gT_X11_comes : GoodIn lw_tbl wsX11_comes := goodIn_q _ [(4, 11), (3, 169), (3, 171), (0, 3), (1, 1), (3, 172), (2, 139), (2, 141), (0, 0), (2, 142), (2, 105), (2, 96), (3, 173), (3, 174), (3, 175), (1, 18), (3, 176), (2, 203), (2, 195), (2, 196), (2, 197), (4, 12), (3, 119), (3, 120), (3, 121), (3, 122), (1, 17), (3, 123), (3, 124), (2, 156), (2, 157), (4, 13), (4, 15), (0, 8), (4, 16), (2, 212), (2, 95), (2, 107), (3, 24), (3, 25), (3, 26), (3, 27), (4, 17), (4, 18), (4, 19), (1, 2), (4, 20), (4, 21), (3, 198), (3, 199), (3, 200), (1, 36), (2, 108), (2, 110), (2, 112), (2, 114), (2, 116), (2, 118), (2, 120), (2, 122), (2, 124), (2, 126), (2, 128), (2, 130), (2, 132), (2, 228), (2, 230), (2, 232), (2, 234), (2, 236), (2, 238), (3, 0), (3, 2), (3, 4), (3, 6), (3, 8), (3, 10), (3, 12), (3, 14), (3, 16), (1, 41), (1, 43), (1, 45), (1, 47)] (by decide +kernel) (by decide +kernel)
set_option maxRecDepth 20000 in
theorem gL_law_X11_comes : GoodIn lw_tbl (wsV RL 100 RX11 yX11_comes wsX11_comes) := goodIn_app (goodIn_q _ [(4, 8), (4, 9), (4, 10), (1, 1)] (by decide +kernel) (by decide +kernel)) gT_X11_comes
theorem dL_law_1080 : decode cL_law 1080 = .ok (.invokevirtual 100, 3) := by decide +kernel
theorem dL_law_1083 : decode cL_law 1083 = .ok (.aload_n 2, 1) := by decide +kernel
theorem dL_law_1084 : decode cL_law 1084 = .ok (.aload_n 0, 1) := by decide +kernel
theorem dL_law_1085 : decode cL_law 1085 = .ok (.iload_n 3, 1) := by decide +kernel
theorem dL_law_1086 : decode cL_law 1086 = .ok (.iconst 1, 1) := by decide +kernel
theorem dL_law_1087 : decode cL_law 1087 = .ok (.iadd, 1) := by decide +kernel
theorem dL_law_1088 : decode cL_law 1088 = .ok (.iaload, 1) := by decide +kernel
theorem dL_law_1089 : decode cL_law 1089 = .ok (.aload_n 0, 1) := by decide +kernel
theorem dL_law_1090 : decode cL_law 1090 = .ok (.iload_n 3, 1) := by decide +kernel
theorem dL_law_1091 : decode cL_law 1091 = .ok (.iconst 2, 1) := by decide +kernel
theorem dL_law_1092 : decode cL_law 1092 = .ok (.iadd, 1) := by decide +kernel
theorem dL_law_1093 : decode cL_law 1093 = .ok (.iaload, 1) := by decide +kernel
theorem dL_law_1094 : decode cL_law 1094 = .ok (.aload_n 0, 1) := by decide +kernel
theorem dL_law_1095 : decode cL_law 1095 = .ok (.iload_n 3, 1) := by decide +kernel
theorem dL_law_1096 : decode cL_law 1096 = .ok (.iconst 3, 1) := by decide +kernel
theorem dL_law_1097 : decode cL_law 1097 = .ok (.iadd, 1) := by decide +kernel
theorem dL_law_1098 : decode cL_law 1098 = .ok (.iaload, 1) := by decide +kernel
theorem dL_law_1099 : decode cL_law 1099 = .ok (.aload_n 0, 1) := by decide +kernel
theorem dL_law_1100 : decode cL_law 1100 = .ok (.iload_n 3, 1) := by decide +kernel
theorem dL_law_1101 : decode cL_law 1101 = .ok (.iconst 4, 1) := by decide +kernel
theorem dL_law_1102 : decode cL_law 1102 = .ok (.iadd, 1) := by decide +kernel
theorem dL_law_1103 : decode cL_law 1103 = .ok (.iaload, 1) := by decide +kernel
set_option maxRecDepth 20000 in
theorem gT_X12_comes : GoodIn lw_tbl wsX12_comes := goodIn_q _ [(7, 38), (6, 239), (7, 1), (0, 37), (1, 12), (7, 2), (5, 130), (6, 151), (6, 153), (0, 30), (6, 154), (5, 136), (6, 144), (6, 145), (6, 146), (6, 122), (6, 123), (6, 124), (7, 39), (7, 40), (7, 41), (7, 42), (7, 44), (0, 41), (7, 45), (5, 135), (5, 121), (6, 208), (6, 209), (6, 210), (6, 211), (6, 212), (6, 213), (6, 155), (6, 157), (0, 31), (6, 158), (7, 46), (7, 48), (0, 42), (7, 49), (7, 3), (7, 5), (0, 38), (7, 6), (5, 129), (5, 126), (5, 127), (5, 128), (5, 199), (5, 201), (5, 203), (5, 205), (5, 207), (5, 209), (5, 211), (5, 213), (5, 215), (5, 217), (5, 219), (5, 221), (5, 223), (5, 225), (5, 227), (5, 229), (5, 231), (5, 233), (5, 235), (5, 237), (5, 239), (6, 1), (6, 3), (6, 5), (6, 7), (6, 9), (6, 11), (6, 13), (6, 15), (6, 17), (6, 19), (6, 21), (6, 23), (6, 25), (6, 27), (6, 29), (6, 31), (6, 33), (6, 35), (6, 37), (6, 39), (6, 41), (6, 43), (6, 45), (6, 47), (6, 49), (6, 51), (6, 53), (6, 55), (6, 57), (6, 59), (6, 61), (6, 63), (6, 65), (6, 67), (6, 69), (6, 71), (6, 73), (6, 75), (6, 77), (6, 79), (6, 81), (6, 83), (6, 85), (6, 87), (6, 89), (6, 91), (6, 93), (6, 95), (6, 97), (6, 99), (6, 101), (6, 103), (6, 105), (6, 107), (6, 109), (6, 111), (6, 113), (6, 115)] (by decide +kernel) (by decide +kernel)
set_option maxRecDepth 20000 in
theorem gL_law_X12_comes : GoodIn lw_tbl (wsV RL 103 RX12 yX12_comes wsX12_comes) := goodIn_app (goodIn_q _ [(7, 35), (7, 36), (7, 37), (1, 12)] (by decide +kernel) (by decide +kernel)) gT_X12_comes
theorem dL_law_1104 : decode cL_law 1104 = .ok (.invokevirtual 103, 3) := by decide +kernel
theorem dL_law_1107 : decode cL_law 1107 = .ok (.if_icmp .eq 730, 3) := by decide +kernel
theorem dL_law_1112 : decode cL_law 1112 = .ok (.aload_n 1, 1) := by decide +kernel
theorem dL_law_1113 : decode cL_law 1113 = .ok (.aload_n 0, 1) := by decide +kernel
theorem dL_law_1114 : decode cL_law 1114 = .ok (.iload_n 3, 1) := by decide +kernel
theorem dL_law_1115 : decode cL_law 1115 = .ok (.iconst 1, 1) := by decide +kernel
theorem dL_law_1116 : decode cL_law 1116 = .ok (.iadd, 1) := by decide +kernel
theorem dL_law_1117 : decode cL_law 1117 = .ok (.iaload, 1) := by decide +kernel
theorem dL_law_1118 : decode cL_law 1118 = .ok (.aload_n 0, 1) := by decide +kernel
theorem dL_law_1119 : decode cL_law 1119 = .ok (.iload_n 3, 1) := by decide +kernel
theorem dL_law_1120 : decode cL_law 1120 = .ok (.iconst 2, 1) := by decide +kernel
theorem dL_law_1121 : decode cL_law 1121 = .ok (.iadd, 1) := by decide +kernel
theorem dL_law_1122 : decode cL_law 1122 = .ok (.iaload, 1) := by decide +kernel
theorem dL_law_1123 : decode cL_law 1123 = .ok (.aload_n 0, 1) := by decide +kernel
theorem dL_law_1124 : decode cL_law 1124 = .ok (.iload_n 3, 1) := by decide +kernel
theorem dL_law_1125 : decode cL_law 1125 = .ok (.iconst 3, 1) := by decide +kernel
theorem dL_law_1126 : decode cL_law 1126 = .ok (.iadd, 1) := by decide +kernel
theorem dL_law_1127 : decode cL_law 1127 = .ok (.iaload, 1) := by decide +kernel
set_option maxRecDepth 20000 in
theorem gT_X11_last : GoodIn lw_tbl wsX11_last := goodIn_q _ [(4, 25), (3, 169), (3, 171), (0, 3), (1, 1), (3, 172), (2, 139), (2, 141), (0, 0), (2, 142), (2, 105), (2, 96), (3, 173), (3, 174), (3, 175), (1, 18), (3, 176), (2, 203), (2, 195), (2, 196), (2, 197), (4, 12), (3, 119), (3, 120), (3, 121), (3, 122), (1, 17), (3, 123), (3, 124), (2, 156), (2, 157), (4, 13), (4, 15), (0, 8), (4, 16), (2, 212), (2, 95), (2, 107), (3, 24), (3, 25), (3, 26), (3, 27), (4, 17), (4, 18), (4, 19), (1, 2), (4, 20), (4, 21), (3, 198), (3, 199), (3, 200), (1, 36), (2, 108), (2, 110), (2, 112), (2, 114), (2, 116), (2, 118), (2, 120), (2, 122), (2, 124), (2, 126), (2, 128), (2, 130), (2, 132), (2, 228), (2, 230), (2, 232), (2, 234), (2, 236), (2, 238), (3, 0), (3, 2), (3, 4), (3, 6), (3, 8), (3, 10), (3, 12), (3, 14), (3, 16), (1, 41), (1, 43), (1, 45), (1, 47)] (by decide +kernel) (by decide +kernel)
set_option maxRecDepth 20000 in
theorem gL_law_X11_last : GoodIn lw_tbl (wsV RL 104 RX11 yX11_last wsX11_last) := goodIn_app (goodIn_q _ [(4, 22), (4, 23), (4, 24), (1, 1)] (by decide +kernel) (by decide +kernel)) gT_X11_last
theorem dL_law_1128 : decode cL_law 1128 = .ok (.invokevirtual 104, 3) := by decide +kernel
theorem dL_law_1131 : decode cL_law 1131 = .ok (.aload_n 2, 1) := by decide +kernel
theorem dL_law_1132 : decode cL_law 1132 = .ok (.aload_n 0, 1) := by decide +kernel
theorem dL_law_1133 : decode cL_law 1133 = .ok (.iload_n 3, 1) := by decide +kernel
theorem dL_law_1134 : decode cL_law 1134 = .ok (.iconst 1, 1) := by decide +kernel
theorem dL_law_1135 : decode cL_law 1135 = .ok (.iadd, 1) := by decide +kernel
theorem dL_law_1136 : decode cL_law 1136 = .ok (.iaload, 1) := by decide +kernel
theorem dL_law_1137 : decode cL_law 1137 = .ok (.aload_n 0, 1) := by decide +kernel
theorem dL_law_1138 : decode cL_law 1138 = .ok (.iload_n 3, 1) := by decide +kernel
theorem dL_law_1139 : decode cL_law 1139 = .ok (.iconst 2, 1) := by decide +kernel
theorem dL_law_1140 : decode cL_law 1140 = .ok (.iadd, 1) := by decide +kernel
theorem dL_law_1141 : decode cL_law 1141 = .ok (.iaload, 1) := by decide +kernel
theorem dL_law_1142 : decode cL_law 1142 = .ok (.aload_n 0, 1) := by decide +kernel
theorem dL_law_1143 : decode cL_law 1143 = .ok (.iload_n 3, 1) := by decide +kernel
theorem dL_law_1144 : decode cL_law 1144 = .ok (.iconst 3, 1) := by decide +kernel
theorem dL_law_1145 : decode cL_law 1145 = .ok (.iadd, 1) := by decide +kernel
theorem dL_law_1146 : decode cL_law 1146 = .ok (.iaload, 1) := by decide +kernel
set_option maxRecDepth 20000 in
theorem gT_X12_last : GoodIn lw_tbl wsX12_last := goodIn_q _ [(7, 53), (6, 239), (7, 1), (0, 37), (1, 12), (7, 2), (5, 130), (6, 151), (6, 153), (0, 30), (6, 154), (5, 136), (6, 144), (6, 145), (6, 146), (6, 122), (6, 123), (6, 124), (7, 42), (7, 44), (0, 41), (7, 45), (5, 135), (5, 121), (6, 208), (6, 209), (6, 210), (6, 211), (6, 212), (6, 213), (6, 155), (6, 157), (0, 31), (6, 158), (7, 46), (7, 48), (0, 42), (7, 49), (7, 3), (7, 5), (0, 38), (7, 6), (5, 129), (5, 126), (5, 127), (5, 128), (5, 199), (5, 201), (5, 203), (5, 205), (5, 207), (5, 209), (5, 211), (5, 213), (5, 215), (5, 217), (5, 219), (5, 221), (5, 223), (5, 225), (5, 227), (5, 229), (5, 231), (5, 233), (5, 235), (5, 237), (5, 239), (6, 1), (6, 3), (6, 5), (6, 7), (6, 9), (6, 11), (6, 13), (6, 15), (6, 17), (6, 19), (6, 21), (6, 23), (6, 25), (6, 27), (6, 29), (6, 31), (6, 33), (6, 35), (6, 37), (6, 39), (6, 41), (6, 43), (6, 45), (6, 47), (6, 49), (6, 51), (6, 53), (6, 55), (6, 57), (6, 59), (6, 61), (6, 63), (6, 65), (6, 67), (6, 69), (6, 71), (6, 73), (6, 75), (6, 77), (6, 79), (6, 81), (6, 83), (6, 85), (6, 87), (6, 89), (6, 91), (6, 93), (6, 95), (6, 97), (6, 99), (6, 101), (6, 103), (6, 105), (6, 107), (6, 109), (6, 111), (6, 113), (6, 115)] (by decide +kernel) (by decide +kernel)
set_option maxRecDepth 20000 in
theorem gL_law_X12_last : GoodIn lw_tbl (wsV RL 107 RX12 yX12_last wsX12_last) := goodIn_app (goodIn_q _ [(7, 50), (7, 51), (7, 52), (1, 12)] (by decide +kernel) (by decide +kernel)) gT_X12_last
theorem dL_law_1147 : decode cL_law 1147 = .ok (.invokevirtual 107, 3) := by decide +kernel
theorem dL_law_1150 : decode cL_law 1150 = .ok (.if_icmp .eq 687, 3) := by decide +kernel
theorem dL_law_1155 : decode cL_law 1155 = .ok (.aload_n 1, 1) := by decide +kernel
theorem dL_law_1156 : decode cL_law 1156 = .ok (.aload_n 0, 1) := by decide +kernel
theorem dL_law_1157 : decode cL_law 1157 = .ok (.iload_n 3, 1) := by decide +kernel
theorem dL_law_1158 : decode cL_law 1158 = .ok (.iconst 1, 1) := by decide +kernel
theorem dL_law_1159 : decode cL_law 1159 = .ok (.iadd, 1) := by decide +kernel
theorem dL_law_1160 : decode cL_law 1160 = .ok (.iaload, 1) := by decide +kernel
theorem dL_law_1161 : decode cL_law 1161 = .ok (.aload_n 0, 1) := by decide +kernel
theorem dL_law_1162 : decode cL_law 1162 = .ok (.iload_n 3, 1) := by decide +kernel
theorem dL_law_1163 : decode cL_law 1163 = .ok (.iconst 2, 1) := by decide +kernel
theorem dL_law_1164 : decode cL_law 1164 = .ok (.iadd, 1) := by decide +kernel
theorem dL_law_1165 : decode cL_law 1165 = .ok (.iaload, 1) := by decide +kernel
theorem dL_law_1166 : decode cL_law 1166 = .ok (.aload_n 0, 1) := by decide +kernel
theorem dL_law_1167 : decode cL_law 1167 = .ok (.iload_n 3, 1) := by decide +kernel
theorem dL_law_1168 : decode cL_law 1168 = .ok (.iconst 3, 1) := by decide +kernel
theorem dL_law_1169 : decode cL_law 1169 = .ok (.iadd, 1) := by decide +kernel
theorem dL_law_1170 : decode cL_law 1170 = .ok (.iaload, 1) := by decide +kernel
theorem dL_law_1171 : decode cL_law 1171 = .ok (.aload_n 0, 1) := by decide +kernel
theorem dL_law_1172 : decode cL_law 1172 = .ok (.iload_n 3, 1) := by decide +kernel
theorem dL_law_1173 : decode cL_law 1173 = .ok (.iconst 4, 1) := by decide +kernel
theorem dL_law_1174 : decode cL_law 1174 = .ok (.iadd, 1) := by decide +kernel
theorem dL_law_1175 : decode cL_law 1175 = .ok (.iaload, 1) := by decide +kernel
set_option maxRecDepth 20000 in
theorem gT_X11_man : GoodIn lw_tbl wsX11_man := goodIn_q _ [(4, 29), (2, 99), (1, 152), (2, 139), (2, 141), (0, 0), (1, 1), (2, 142), (2, 105), (2, 96), (4, 30), (4, 31), (4, 32), (4, 33), (4, 34), (4, 35), (1, 5), (4, 36), (1, 141), (1, 151), (1, 143), (1, 145), (1, 147), (2, 108), (2, 110), (2, 112), (2, 114), (2, 116), (2, 118), (2, 120), (2, 122), (2, 124), (2, 126), (2, 128), (2, 130), (2, 132), (1, 153), (1, 155), (1, 157), (1, 159), (1, 161), (1, 163)] (by decide +kernel) (by decide +kernel)
set_option maxRecDepth 20000 in
theorem gL_law_X11_man : GoodIn lw_tbl (wsV RL 108 RX11 yX11_man wsX11_man) := goodIn_app (goodIn_q _ [(4, 26), (4, 27), (4, 28), (1, 1)] (by decide +kernel) (by decide +kernel)) gT_X11_man
theorem dL_law_1176 : decode cL_law 1176 = .ok (.invokevirtual 108, 3) := by decide +kernel
theorem dL_law_1179 : decode cL_law 1179 = .ok (.aload_n 2, 1) := by decide +kernel
theorem dL_law_1180 : decode cL_law 1180 = .ok (.aload_n 0, 1) := by decide +kernel
theorem dL_law_1181 : decode cL_law 1181 = .ok (.iload_n 3, 1) := by decide +kernel
theorem dL_law_1182 : decode cL_law 1182 = .ok (.iconst 1, 1) := by decide +kernel
theorem dL_law_1183 : decode cL_law 1183 = .ok (.iadd, 1) := by decide +kernel
theorem dL_law_1184 : decode cL_law 1184 = .ok (.iaload, 1) := by decide +kernel
theorem dL_law_1185 : decode cL_law 1185 = .ok (.aload_n 0, 1) := by decide +kernel
theorem dL_law_1186 : decode cL_law 1186 = .ok (.iload_n 3, 1) := by decide +kernel
theorem dL_law_1187 : decode cL_law 1187 = .ok (.iconst 2, 1) := by decide +kernel
theorem dL_law_1188 : decode cL_law 1188 = .ok (.iadd, 1) := by decide +kernel
theorem dL_law_1189 : decode cL_law 1189 = .ok (.iaload, 1) := by decide +kernel
theorem dL_law_1190 : decode cL_law 1190 = .ok (.aload_n 0, 1) := by decide +kernel
theorem dL_law_1191 : decode cL_law 1191 = .ok (.iload_n 3, 1) := by decide +kernel
theorem dL_law_1192 : decode cL_law 1192 = .ok (.iconst 3, 1) := by decide +kernel
theorem dL_law_1193 : decode cL_law 1193 = .ok (.iadd, 1) := by decide +kernel
theorem dL_law_1194 : decode cL_law 1194 = .ok (.iaload, 1) := by decide +kernel
theorem dL_law_1195 : decode cL_law 1195 = .ok (.aload_n 0, 1) := by decide +kernel
theorem dL_law_1196 : decode cL_law 1196 = .ok (.iload_n 3, 1) := by decide +kernel
theorem dL_law_1197 : decode cL_law 1197 = .ok (.iconst 4, 1) := by decide +kernel
theorem dL_law_1198 : decode cL_law 1198 = .ok (.iadd, 1) := by decide +kernel
theorem dL_law_1199 : decode cL_law 1199 = .ok (.iaload, 1) := by decide +kernel
set_option maxRecDepth 20000 in
theorem gT_X12_man : GoodIn lw_tbl wsX12_man := goodIn_q _ [(7, 57), (5, 164), (5, 160), (5, 161), (5, 162), (5, 163), (6, 151), (6, 153), (0, 30), (1, 12), (6, 154), (5, 136), (6, 122), (6, 123), (6, 124), (5, 199), (5, 201), (5, 203), (5, 205), (5, 207), (5, 209), (5, 211), (5, 213), (5, 215), (5, 217), (5, 219), (5, 221), (5, 223), (5, 225), (5, 227), (5, 229), (5, 231), (5, 233), (5, 235), (5, 237), (5, 239), (6, 1), (6, 3), (6, 5), (6, 7), (6, 9), (6, 11), (6, 13), (6, 15), (6, 17), (6, 19), (6, 21), (6, 23), (6, 25), (6, 27), (6, 29), (6, 31), (6, 33), (6, 35), (6, 37), (6, 39), (6, 41), (6, 43), (6, 45), (6, 47), (6, 49), (6, 51), (6, 53), (6, 55), (6, 57), (6, 59), (6, 61), (6, 63), (6, 65), (6, 67), (6, 69), (6, 71), (6, 73), (6, 75), (6, 77), (6, 79), (6, 81), (6, 83), (6, 85), (6, 87), (6, 89), (6, 91), (6, 93), (6, 95), (6, 97), (6, 99), (6, 101), (6, 103), (6, 105), (6, 107), (6, 109), (6, 111), (6, 113), (6, 115)] (by decide +kernel) (by decide +kernel)
set_option maxRecDepth 20000 in
theorem gL_law_X12_man : GoodIn lw_tbl (wsV RL 111 RX12 yX12_man wsX12_man) := goodIn_app (goodIn_q _ [(7, 54), (7, 55), (7, 56), (1, 12)] (by decide +kernel) (by decide +kernel)) gT_X12_man
theorem dL_law_1200 : decode cL_law 1200 = .ok (.invokevirtual 111, 3) := by decide +kernel
theorem dL_law_1203 : decode cL_law 1203 = .ok (.if_icmp .eq 634, 3) := by decide +kernel
theorem dL_law_1208 : decode cL_law 1208 = .ok (.aload_n 1, 1) := by decide +kernel
theorem dL_law_1209 : decode cL_law 1209 = .ok (.aload_n 0, 1) := by decide +kernel
theorem dL_law_1210 : decode cL_law 1210 = .ok (.iload_n 3, 1) := by decide +kernel
theorem dL_law_1211 : decode cL_law 1211 = .ok (.iconst 1, 1) := by decide +kernel
theorem dL_law_1212 : decode cL_law 1212 = .ok (.iadd, 1) := by decide +kernel
theorem dL_law_1213 : decode cL_law 1213 = .ok (.iaload, 1) := by decide +kernel
theorem dL_law_1214 : decode cL_law 1214 = .ok (.aload_n 0, 1) := by decide +kernel
theorem dL_law_1215 : decode cL_law 1215 = .ok (.iload_n 3, 1) := by decide +kernel
theorem dL_law_1216 : decode cL_law 1216 = .ok (.iconst 2, 1) := by decide +kernel
theorem dL_law_1217 : decode cL_law 1217 = .ok (.iadd, 1) := by decide +kernel
theorem dL_law_1218 : decode cL_law 1218 = .ok (.iaload, 1) := by decide +kernel
theorem dL_law_1219 : decode cL_law 1219 = .ok (.i2l, 1) := by decide +kernel
theorem dL_law_1220 : decode cL_law 1220 = .ok (.bipush 32, 2) := by decide +kernel
theorem dL_law_1222 : decode cL_law 1222 = .ok (.lshl, 1) := by decide +kernel
theorem dL_law_1223 : decode cL_law 1223 = .ok (.aload_n 0, 1) := by decide +kernel
theorem dL_law_1224 : decode cL_law 1224 = .ok (.iload_n 3, 1) := by decide +kernel
theorem dL_law_1225 : decode cL_law 1225 = .ok (.iconst 3, 1) := by decide +kernel
theorem dL_law_1226 : decode cL_law 1226 = .ok (.iadd, 1) := by decide +kernel
theorem dL_law_1227 : decode cL_law 1227 = .ok (.iaload, 1) := by decide +kernel
theorem dL_law_1228 : decode cL_law 1228 = .ok (.i2l, 1) := by decide +kernel
theorem dL_law_1229 : decode cL_law 1229 = .ok (.ldc2_w 42, 3) := by decide +kernel
theorem dL_law_1232 : decode cL_law 1232 = .ok (.land, 1) := by decide +kernel
theorem dL_law_1233 : decode cL_law 1233 = .ok (.lor, 1) := by decide +kernel
set_option maxRecDepth 20000 in
theorem gT_X11_feed : GoodIn lw_tbl wsX11_feed := goodIn_q _ [(4, 40), (2, 100), (2, 3), (4, 41), (4, 42), (4, 43), (1, 6), (4, 44), (2, 2), (2, 1), (4, 45), (2, 108), (2, 110), (2, 112), (2, 114), (2, 116), (2, 118), (2, 120), (2, 122), (2, 124), (2, 126), (2, 128), (2, 130), (2, 132), (2, 12), (2, 14), (2, 16), (2, 18), (2, 20), (2, 22), (2, 24), (2, 26)] (by decide +kernel) (by decide +kernel)
set_option maxRecDepth 20000 in
theorem gL_law_X11_feed : GoodIn lw_tbl (wsV RL 112 RX11 yX11_feed wsX11_feed) := goodIn_app (goodIn_q _ [(4, 37), (4, 38), (4, 39), (1, 1)] (by decide +kernel) (by decide +kernel)) gT_X11_feed
theorem dL_law_1234 : decode cL_law 1234 = .ok (.invokevirtual 112, 3) := by decide +kernel
theorem dL_law_1237 : decode cL_law 1237 = .ok (.aload_n 2, 1) := by decide +kernel
theorem dL_law_1238 : decode cL_law 1238 = .ok (.aload_n 0, 1) := by decide +kernel
theorem dL_law_1239 : decode cL_law 1239 = .ok (.iload_n 3, 1) := by decide +kernel
theorem dL_law_1240 : decode cL_law 1240 = .ok (.iconst 1, 1) := by decide +kernel
theorem dL_law_1241 : decode cL_law 1241 = .ok (.iadd, 1) := by decide +kernel
theorem dL_law_1242 : decode cL_law 1242 = .ok (.iaload, 1) := by decide +kernel
theorem dL_law_1243 : decode cL_law 1243 = .ok (.aload_n 0, 1) := by decide +kernel
theorem dL_law_1244 : decode cL_law 1244 = .ok (.iload_n 3, 1) := by decide +kernel
theorem dL_law_1245 : decode cL_law 1245 = .ok (.iconst 2, 1) := by decide +kernel
theorem dL_law_1246 : decode cL_law 1246 = .ok (.iadd, 1) := by decide +kernel
theorem dL_law_1247 : decode cL_law 1247 = .ok (.iaload, 1) := by decide +kernel
theorem dL_law_1248 : decode cL_law 1248 = .ok (.i2l, 1) := by decide +kernel
theorem dL_law_1249 : decode cL_law 1249 = .ok (.bipush 32, 2) := by decide +kernel
theorem dL_law_1251 : decode cL_law 1251 = .ok (.lshl, 1) := by decide +kernel
theorem dL_law_1252 : decode cL_law 1252 = .ok (.aload_n 0, 1) := by decide +kernel
theorem dL_law_1253 : decode cL_law 1253 = .ok (.iload_n 3, 1) := by decide +kernel
theorem dL_law_1254 : decode cL_law 1254 = .ok (.iconst 3, 1) := by decide +kernel
theorem dL_law_1255 : decode cL_law 1255 = .ok (.iadd, 1) := by decide +kernel
theorem dL_law_1256 : decode cL_law 1256 = .ok (.iaload, 1) := by decide +kernel
theorem dL_law_1257 : decode cL_law 1257 = .ok (.i2l, 1) := by decide +kernel
theorem dL_law_1258 : decode cL_law 1258 = .ok (.ldc2_w 42, 3) := by decide +kernel
theorem dL_law_1261 : decode cL_law 1261 = .ok (.land, 1) := by decide +kernel
theorem dL_law_1262 : decode cL_law 1262 = .ok (.lor, 1) := by decide +kernel
set_option maxRecDepth 20000 in
theorem gT_X12_feed : GoodIn lw_tbl wsX12_feed := goodIn_q _ [(7, 61), (5, 172), (5, 171), (7, 62), (6, 122), (6, 123), (1, 12), (6, 124), (5, 199), (5, 201), (5, 203), (5, 205), (5, 207), (5, 209), (5, 211), (5, 213), (5, 215), (5, 217), (5, 219), (5, 221), (5, 223), (5, 225), (5, 227), (5, 229), (5, 231), (5, 233), (5, 235), (5, 237), (5, 239), (6, 1), (6, 3), (6, 5), (6, 7), (6, 9), (6, 11), (6, 13), (6, 15), (6, 17), (6, 19), (6, 21), (6, 23), (6, 25), (6, 27), (6, 29), (6, 31), (6, 33), (6, 35), (6, 37), (6, 39), (6, 41), (6, 43), (6, 45), (6, 47), (6, 49), (6, 51), (6, 53), (6, 55), (6, 57), (6, 59), (6, 61), (6, 63), (6, 65), (6, 67), (6, 69), (6, 71), (6, 73), (6, 75), (6, 77), (6, 79), (6, 81), (6, 83), (6, 85), (6, 87), (6, 89), (6, 91), (6, 93), (6, 95), (6, 97), (6, 99), (6, 101), (6, 103), (6, 105), (6, 107), (6, 109), (6, 111), (6, 113), (6, 115)] (by decide +kernel) (by decide +kernel)
set_option maxRecDepth 20000 in
theorem gL_law_X12_feed : GoodIn lw_tbl (wsV RL 116 RX12 yX12_feed wsX12_feed) := goodIn_app (goodIn_q _ [(7, 58), (7, 59), (7, 60), (1, 12)] (by decide +kernel) (by decide +kernel)) gT_X12_feed
theorem dL_law_1263 : decode cL_law 1263 = .ok (.invokevirtual 116, 3) := by decide +kernel
theorem dL_law_1266 : decode cL_law 1266 = .ok (.if_icmp .eq 571, 3) := by decide +kernel
theorem dL_law_1271 : decode cL_law 1271 = .ok (.aload_n 1, 1) := by decide +kernel
set_option maxRecDepth 20000 in
theorem gT_X11_text : GoodIn lw_tbl wsX11_text := goodIn_q _ [(4, 49), (2, 100), (4, 50), (4, 51), (4, 52), (1, 6), (4, 53), (2, 5), (2, 9), (2, 1), (2, 2), (2, 4), (1, 204), (4, 54), (4, 55), (4, 56), (1, 7), (4, 57), (1, 198), (4, 58), (2, 181), (1, 17), (2, 182), (1, 199), (1, 203), (1, 205), (1, 206), (1, 188), (1, 190), (4, 59), (4, 61), (0, 9), (4, 62), (1, 201), (1, 200), (4, 63), (4, 64), (4, 65), (4, 66), (4, 68), (0, 10), (4, 69), (1, 202), (4, 70), (4, 71), (4, 72), (4, 73), (4, 75), (0, 11), (4, 76), (4, 77), (4, 78), (4, 79), (4, 91), (4, 93), (0, 12), (4, 94), (4, 95), (4, 96), (4, 97), (1, 13), (4, 98), (7, 232), (4, 99), (4, 100), (4, 101), (4, 102), (4, 103), (7, 233), (4, 105), (4, 106), (4, 107), (4, 108), (4, 109), (4, 110), (4, 111), (4, 112), (4, 113), (4, 114), (1, 14), (4, 115), (4, 116), (4, 117), (4, 118), (4, 119), (4, 121), (4, 122), (1, 15), (4, 123), (4, 124), (4, 125), (1, 16), (4, 126), (4, 127), (4, 128), (4, 129), (4, 130), (4, 131), (4, 132), (4, 133), (4, 134), (4, 135), (4, 136), (4, 137), (4, 139), (4, 141), (4, 143), (4, 144), (4, 145), (4, 146), (4, 147), (4, 148), (4, 149), (1, 230), (1, 231), (1, 8), (1, 232), (1, 187), (1, 189), (4, 150), (4, 152), (0, 13), (4, 153), (4, 154), (4, 156), (0, 14), (4, 157), (4, 158), (4, 160), (0, 15), (4, 161), (4, 162), (4, 164), (0, 16), (4, 165), (4, 166), (4, 168), (0, 17), (4, 169), (4, 170), (4, 172), (0, 18), (4, 178), (1, 236), (1, 237), (1, 238), (1, 186), (4, 173), (4, 174), (4, 176), (0, 19), (4, 182), (4, 183), (4, 185), (0, 21), (4, 177), (4, 179), (4, 181), (0, 20), (4, 194), (4, 191), (4, 193), (0, 23), (4, 186), (4, 187), (4, 189), (0, 22), (4, 190), (4, 195), (4, 196), (4, 197), (4, 198), (4, 199), (3, 238), (3, 237), (1, 20), (2, 108), (2, 110), (2, 112), (2, 114), (2, 116), (2, 118), (2, 120), (2, 122), (2, 124), (2, 126), (2, 128), (2, 130), (2, 132), (2, 12), (2, 14), (2, 16), (2, 18), (2, 20), (2, 22), (2, 24), (2, 26), (1, 207), (1, 209), (1, 211), (1, 213), (1, 215), (1, 217), (1, 219), (1, 221), (1, 191), (1, 193), (1, 195)] (by decide +kernel) (by decide +kernel)
set_option maxRecDepth 20000 in
theorem gL_law_X11_text : GoodIn lw_tbl (wsV RL 117 RX11 yX11_text wsX11_text) := goodIn_app (goodIn_q _ [(4, 46), (4, 47), (4, 48), (1, 1)] (by decide +kernel) (by decide +kernel)) gT_X11_text
theorem dL_law_1272 : decode cL_law 1272 = .ok (.invokevirtual 117, 3) := by decide +kernel
theorem dL_law_1275 : decode cL_law 1275 = .ok (.aload_n 2, 1) := by decide +kernel
set_option maxRecDepth 20000 in
theorem gT_X12_text : GoodIn lw_tbl wsX12_text := goodIn_q _ [(7, 66), (5, 175), (5, 172), (5, 173), (5, 171), (5, 174), (7, 67), (7, 69), (0, 43), (1, 12), (7, 70), (5, 182), (5, 183), (5, 185), (5, 186), (5, 187), (5, 189), (5, 190), (5, 184), (7, 71), (7, 73), (0, 44), (7, 74), (7, 75), (7, 77), (0, 45), (7, 78), (7, 79), (7, 81), (0, 46), (7, 82), (6, 122), (6, 123), (6, 124), (7, 83), (7, 85), (0, 47), (7, 86), (7, 88), (7, 90), (0, 48), (7, 91), (7, 92), (7, 94), (0, 49), (7, 95), (5, 118), (4, 96), (4, 97), (1, 13), (4, 98), (7, 232), (4, 99), (4, 100), (4, 101), (4, 102), (4, 103), (7, 233), (5, 119), (4, 106), (4, 107), (4, 108), (4, 109), (4, 110), (4, 111), (4, 112), (4, 113), (4, 114), (1, 14), (4, 115), (4, 116), (4, 117), (4, 118), (4, 119), (4, 121), (4, 122), (1, 15), (4, 123), (4, 124), (4, 125), (1, 16), (4, 126), (4, 127), (4, 128), (4, 129), (4, 130), (4, 131), (4, 132), (4, 133), (4, 134), (4, 135), (4, 136), (4, 137), (4, 139), (4, 141), (7, 96), (7, 98), (0, 50), (7, 99), (7, 100), (7, 102), (0, 51), (7, 103), (7, 104), (7, 106), (0, 52), (7, 128), (5, 188), (7, 109), (7, 111), (0, 53), (7, 112), (7, 113), (7, 115), (0, 54), (7, 116), (7, 125), (7, 127), (0, 57), (7, 124), (7, 120), (7, 121), (7, 123), (0, 56), (7, 107), (7, 117), (7, 119), (0, 55), (5, 199), (5, 201), (5, 203), (5, 205), (5, 207), (5, 209), (5, 211), (5, 213), (5, 215), (5, 217), (5, 219), (5, 221), (5, 223), (5, 225), (5, 227), (5, 229), (5, 231), (5, 233), (5, 235), (5, 237), (5, 239), (6, 1), (6, 3), (6, 5), (6, 7), (6, 9), (6, 11), (6, 13), (6, 15), (6, 17), (6, 19), (6, 21), (6, 23), (6, 25), (6, 27), (6, 29), (6, 31), (6, 33), (6, 35), (6, 37), (6, 39), (6, 41), (6, 43), (6, 45), (6, 47), (6, 49), (6, 51), (6, 53), (6, 55), (6, 57), (6, 59), (6, 61), (6, 63), (6, 65), (6, 67), (6, 69), (6, 71), (6, 73), (6, 75), (6, 77), (6, 79), (6, 81), (6, 83), (6, 85), (6, 87), (6, 89), (6, 91), (6, 93), (6, 95), (6, 97), (6, 99), (6, 101), (6, 103), (6, 105), (6, 107), (6, 109), (6, 111), (6, 113), (6, 115)] (by decide +kernel) (by decide +kernel)
set_option maxRecDepth 20000 in
theorem gL_law_X12_text : GoodIn lw_tbl (wsV RL 121 RX12 yX12_text wsX12_text) := goodIn_app (goodIn_q _ [(7, 63), (7, 64), (7, 65), (1, 12)] (by decide +kernel) (by decide +kernel)) gT_X12_text
theorem dL_law_1276 : decode cL_law 1276 = .ok (.invokevirtual 121, 3) := by decide +kernel
theorem dL_law_1279 : decode cL_law 1279 = .ok (.if_icmp .eq 558, 3) := by decide +kernel
theorem dL_law_1284 : decode cL_law 1284 = .ok (.aload_n 1, 1) := by decide +kernel
theorem dL_law_1285 : decode cL_law 1285 = .ok (.aload_n 0, 1) := by decide +kernel
theorem dL_law_1286 : decode cL_law 1286 = .ok (.iload_n 3, 1) := by decide +kernel
theorem dL_law_1287 : decode cL_law 1287 = .ok (.iconst 1, 1) := by decide +kernel
theorem dL_law_1288 : decode cL_law 1288 = .ok (.iadd, 1) := by decide +kernel
theorem dL_law_1289 : decode cL_law 1289 = .ok (.iaload, 1) := by decide +kernel
set_option maxRecDepth 20000 in
theorem gT_X11_force : GoodIn lw_tbl wsX11_force := goodIn_q _ [(4, 204), (2, 100), (2, 6), (2, 8), (2, 108), (2, 110), (2, 112), (2, 114), (2, 116), (2, 118), (2, 120), (2, 122), (2, 124), (2, 126), (2, 128), (2, 130), (2, 132), (2, 12), (2, 14), (2, 16), (2, 18), (2, 20), (2, 22), (2, 24), (2, 26)] (by decide +kernel) (by decide +kernel)
set_option maxRecDepth 20000 in
theorem gL_law_X11_force : GoodIn lw_tbl (wsV RL 122 RX11 yX11_force wsX11_force) := goodIn_app (goodIn_q _ [(4, 201), (4, 202), (4, 203), (1, 1)] (by decide +kernel) (by decide +kernel)) gT_X11_force
theorem dL_law_1290 : decode cL_law 1290 = .ok (.invokevirtual 122, 3) := by decide +kernel
theorem dL_law_1293 : decode cL_law 1293 = .ok (.aload_n 2, 1) := by decide +kernel
theorem dL_law_1294 : decode cL_law 1294 = .ok (.aload_n 0, 1) := by decide +kernel
theorem dL_law_1295 : decode cL_law 1295 = .ok (.iload_n 3, 1) := by decide +kernel
theorem dL_law_1296 : decode cL_law 1296 = .ok (.iconst 1, 1) := by decide +kernel
theorem dL_law_1297 : decode cL_law 1297 = .ok (.iadd, 1) := by decide +kernel
theorem dL_law_1298 : decode cL_law 1298 = .ok (.iaload, 1) := by decide +kernel
set_option maxRecDepth 20000 in
theorem gT_X12_force : GoodIn lw_tbl wsX12_force := goodIn_q _ [(7, 149), (5, 175), (5, 176), (5, 199), (5, 201), (5, 203), (5, 205), (5, 207), (5, 209), (5, 211), (5, 213), (5, 215), (5, 217), (5, 219), (5, 221), (5, 223), (5, 225), (5, 227), (5, 229), (5, 231), (5, 233), (5, 235), (5, 237), (5, 239), (6, 1), (6, 3), (6, 5), (6, 7), (6, 9), (6, 11), (6, 13), (6, 15), (6, 17), (6, 19), (6, 21), (6, 23), (6, 25), (6, 27), (6, 29), (6, 31), (6, 33), (6, 35), (6, 37), (6, 39), (6, 41), (6, 43), (6, 45), (6, 47), (6, 49), (6, 51), (6, 53), (6, 55), (6, 57), (6, 59), (6, 61), (6, 63), (6, 65), (6, 67), (6, 69), (6, 71), (6, 73), (6, 75), (6, 77), (6, 79), (6, 81), (6, 83), (6, 85), (6, 87), (6, 89), (6, 91), (6, 93), (6, 95), (6, 97), (6, 99), (6, 101), (6, 103), (6, 105), (6, 107), (6, 109), (6, 111), (6, 113), (6, 115)] (by decide +kernel) (by decide +kernel)
set_option maxRecDepth 20000 in
theorem gL_law_X12_force : GoodIn lw_tbl (wsV RL 125 RX12 yX12_force wsX12_force) := goodIn_app (goodIn_q _ [(7, 146), (7, 147), (7, 148), (1, 12)] (by decide +kernel) (by decide +kernel)) gT_X12_force
theorem dL_law_1299 : decode cL_law 1299 = .ok (.invokevirtual 125, 3) := by decide +kernel
theorem dL_law_1302 : decode cL_law 1302 = .ok (.if_icmp .eq 535, 3) := by decide +kernel
theorem dL_law_1307 : decode cL_law 1307 = .ok (.aload_n 1, 1) := by decide +kernel
theorem dL_law_1308 : decode cL_law 1308 = .ok (.aload_n 0, 1) := by decide +kernel
theorem dL_law_1309 : decode cL_law 1309 = .ok (.iload_n 3, 1) := by decide +kernel
theorem dL_law_1310 : decode cL_law 1310 = .ok (.iconst 1, 1) := by decide +kernel
theorem dL_law_1311 : decode cL_law 1311 = .ok (.iadd, 1) := by decide +kernel
theorem dL_law_1312 : decode cL_law 1312 = .ok (.iaload, 1) := by decide +kernel
theorem dL_law_1313 : decode cL_law 1313 = .ok (.aload_n 0, 1) := by decide +kernel
theorem dL_law_1314 : decode cL_law 1314 = .ok (.iload_n 3, 1) := by decide +kernel
theorem dL_law_1315 : decode cL_law 1315 = .ok (.iconst 2, 1) := by decide +kernel
theorem dL_law_1316 : decode cL_law 1316 = .ok (.iadd, 1) := by decide +kernel
theorem dL_law_1317 : decode cL_law 1317 = .ok (.iaload, 1) := by decide +kernel
theorem dL_law_1318 : decode cL_law 1318 = .ok (.aload_n 0, 1) := by decide +kernel
theorem dL_law_1319 : decode cL_law 1319 = .ok (.iload_n 3, 1) := by decide +kernel
theorem dL_law_1320 : decode cL_law 1320 = .ok (.iconst 3, 1) := by decide +kernel
theorem dL_law_1321 : decode cL_law 1321 = .ok (.iadd, 1) := by decide +kernel
theorem dL_law_1322 : decode cL_law 1322 = .ok (.iaload, 1) := by decide +kernel
set_option maxRecDepth 20000 in
theorem gT_X11_says : GoodIn lw_tbl wsX11_says := goodIn_q _ [(4, 208), (2, 99), (1, 152), (3, 42), (2, 206), (2, 95), (2, 104), (2, 100), (2, 212), (4, 209), (4, 211), (0, 24), (1, 1), (4, 212), (1, 142), (1, 144), (1, 146), (1, 148), (2, 139), (2, 141), (0, 0), (2, 142), (2, 105), (2, 96), (4, 213), (4, 214), (4, 215), (1, 6), (4, 216), (2, 10), (2, 4), (2, 7), (2, 11), (4, 217), (4, 218), (4, 219), (1, 8), (4, 220), (1, 189), (1, 187), (1, 186), (4, 221), (4, 222), (4, 223), (4, 224), (4, 225), (4, 226), (4, 227), (4, 228), (4, 229), (4, 230), (4, 231), (4, 232), (3, 169), (3, 171), (0, 3), (3, 172), (3, 173), (3, 174), (3, 175), (1, 18), (3, 176), (2, 203), (3, 187), (3, 48), (3, 49), (3, 50), (2, 207), (2, 227), (2, 205), (2, 226), (2, 218), (2, 155), (2, 156), (1, 17), (2, 157), (3, 51), (3, 52), (3, 53), (3, 54), (3, 55), (3, 56), (3, 57), (1, 2), (3, 58), (1, 35), (3, 60), (3, 61), (3, 62), (3, 64), (3, 65), (3, 66), (3, 68), (0, 2), (3, 69), (2, 215), (2, 217), (4, 233), (4, 234), (4, 235), (4, 237), (2, 181), (2, 182), (4, 236), (3, 126), (3, 127), (4, 12), (3, 119), (3, 120), (3, 121), (3, 122), (3, 123), (3, 124), (2, 108), (2, 110), (2, 112), (2, 114), (2, 116), (2, 118), (2, 120), (2, 122), (2, 124), (2, 126), (2, 128), (2, 130), (2, 132), (1, 153), (1, 155), (1, 157), (1, 159), (1, 161), (1, 163), (2, 228), (2, 230), (2, 232), (2, 234), (2, 236), (2, 238), (3, 0), (3, 2), (3, 4), (3, 6), (3, 8), (3, 10), (3, 12), (3, 14), (3, 16), (2, 12), (2, 14), (2, 16), (2, 18), (2, 20), (2, 22), (2, 24), (2, 26), (1, 191), (1, 193), (1, 195), (1, 41), (1, 43), (1, 45), (1, 47)] (by decide +kernel) (by decide +kernel)
set_option maxRecDepth 20000 in
theorem gL_law_X11_says : GoodIn lw_tbl (wsV RL 126 RX11 yX11_says wsX11_says) := goodIn_app (goodIn_q _ [(4, 205), (4, 206), (4, 207), (1, 1)] (by decide +kernel) (by decide +kernel)) gT_X11_says
theorem dL_law_1323 : decode cL_law 1323 = .ok (.invokevirtual 126, 3) := by decide +kernel
theorem dL_law_1326 : decode cL_law 1326 = .ok (.aload_n 2, 1) := by decide +kernel
theorem dL_law_1327 : decode cL_law 1327 = .ok (.aload_n 0, 1) := by decide +kernel
theorem dL_law_1328 : decode cL_law 1328 = .ok (.iload_n 3, 1) := by decide +kernel
theorem dL_law_1329 : decode cL_law 1329 = .ok (.iconst 1, 1) := by decide +kernel
theorem dL_law_1330 : decode cL_law 1330 = .ok (.iadd, 1) := by decide +kernel
theorem dL_law_1331 : decode cL_law 1331 = .ok (.iaload, 1) := by decide +kernel
theorem dL_law_1332 : decode cL_law 1332 = .ok (.aload_n 0, 1) := by decide +kernel
theorem dL_law_1333 : decode cL_law 1333 = .ok (.iload_n 3, 1) := by decide +kernel
theorem dL_law_1334 : decode cL_law 1334 = .ok (.iconst 2, 1) := by decide +kernel
theorem dL_law_1335 : decode cL_law 1335 = .ok (.iadd, 1) := by decide +kernel
theorem dL_law_1336 : decode cL_law 1336 = .ok (.iaload, 1) := by decide +kernel
theorem dL_law_1337 : decode cL_law 1337 = .ok (.aload_n 0, 1) := by decide +kernel
theorem dL_law_1338 : decode cL_law 1338 = .ok (.iload_n 3, 1) := by decide +kernel
theorem dL_law_1339 : decode cL_law 1339 = .ok (.iconst 3, 1) := by decide +kernel
theorem dL_law_1340 : decode cL_law 1340 = .ok (.iadd, 1) := by decide +kernel
theorem dL_law_1341 : decode cL_law 1341 = .ok (.iaload, 1) := by decide +kernel
set_option maxRecDepth 20000 in
theorem gT_X12_says : GoodIn lw_tbl wsX12_says := goodIn_q _ [(7, 153), (5, 164), (6, 163), (7, 154), (7, 156), (0, 58), (1, 12), (7, 157), (5, 188), (5, 161), (5, 162), (5, 163), (5, 120), (5, 135), (5, 160), (5, 176), (5, 174), (5, 189), (7, 67), (7, 69), (0, 43), (7, 70), (5, 182), (5, 183), (5, 185), (5, 186), (5, 187), (5, 190), (5, 184), (7, 71), (7, 73), (0, 44), (7, 74), (7, 75), (7, 77), (0, 45), (7, 78), (5, 171), (5, 173), (7, 79), (7, 81), (0, 46), (7, 82), (6, 122), (6, 123), (6, 124), (7, 83), (7, 85), (0, 47), (7, 86), (7, 88), (7, 90), (0, 48), (7, 91), (7, 92), (7, 94), (0, 49), (7, 95), (5, 118), (4, 96), (4, 97), (1, 13), (4, 98), (7, 232), (4, 99), (4, 100), (4, 101), (4, 102), (4, 103), (7, 233), (5, 119), (4, 106), (4, 107), (4, 108), (4, 109), (4, 110), (4, 111), (4, 112), (4, 113), (4, 114), (1, 14), (4, 115), (4, 116), (4, 117), (4, 118), (4, 119), (4, 121), (4, 122), (1, 15), (4, 123), (4, 124), (4, 125), (1, 16), (4, 126), (4, 127), (4, 128), (4, 129), (4, 130), (4, 131), (4, 132), (4, 133), (4, 134), (4, 135), (4, 136), (4, 137), (4, 139), (4, 141), (7, 96), (7, 98), (0, 50), (7, 99), (7, 100), (7, 102), (0, 51), (7, 103), (7, 104), (7, 106), (0, 52), (7, 128), (7, 109), (7, 111), (0, 53), (7, 112), (7, 113), (7, 115), (0, 54), (7, 116), (7, 125), (7, 127), (0, 57), (7, 124), (7, 120), (7, 121), (7, 123), (0, 56), (7, 107), (7, 117), (7, 119), (0, 55), (6, 239), (7, 1), (0, 37), (7, 2), (5, 130), (6, 151), (6, 153), (0, 30), (6, 154), (5, 136), (7, 158), (7, 160), (0, 59), (7, 161), (5, 132), (6, 164), (6, 166), (0, 32), (6, 167), (5, 131), (6, 168), (6, 170), (0, 33), (6, 171), (5, 141), (5, 137), (5, 138), (5, 140), (5, 139), (6, 172), (6, 173), (6, 175), (0, 34), (6, 176), (5, 125), (5, 122), (5, 123), (5, 124), (6, 208), (6, 209), (6, 210), (6, 211), (6, 212), (6, 213), (5, 199), (5, 201), (5, 203), (5, 205), (5, 207), (5, 209), (5, 211), (5, 213), (5, 215), (5, 217), (5, 219), (5, 221), (5, 223), (5, 225), (5, 227), (5, 229), (5, 231), (5, 233), (5, 235), (5, 237), (5, 239), (6, 1), (6, 3), (6, 5), (6, 7), (6, 9), (6, 11), (6, 13), (6, 15), (6, 17), (6, 19), (6, 21), (6, 23), (6, 25), (6, 27), (6, 29), (6, 31), (6, 33), (6, 35), (6, 37), (6, 39), (6, 41), (6, 43), (6, 45), (6, 47), (6, 49), (6, 51), (6, 53), (6, 55), (6, 57), (6, 59), (6, 61), (6, 63), (6, 65), (6, 67), (6, 69), (6, 71), (6, 73), (6, 75), (6, 77), (6, 79), (6, 81), (6, 83), (6, 85), (6, 87), (6, 89), (6, 91), (6, 93), (6, 95), (6, 97), (6, 99), (6, 101), (6, 103), (6, 105), (6, 107), (6, 109), (6, 111), (6, 113), (6, 115)] (by decide +kernel) (by decide +kernel)
set_option maxRecDepth 20000 in
theorem gL_law_X12_says : GoodIn lw_tbl (wsV RL 129 RX12 yX12_says wsX12_says) := goodIn_app (goodIn_q _ [(7, 150), (7, 151), (7, 152), (1, 12)] (by decide +kernel) (by decide +kernel)) gT_X12_says
theorem dL_law_1342 : decode cL_law 1342 = .ok (.invokevirtual 129, 3) := by decide +kernel
theorem dL_law_1345 : decode cL_law 1345 = .ok (.lcmp, 1) := by decide +kernel
theorem dL_law_1346 : decode cL_law 1346 = .ok (.ifCond .eq 491, 3) := by decide +kernel
set_option maxHeartbeats 1000000 in
set_option maxRecDepth 100000 in
theorem law_b13 {p : Program} {l : Launch} {e : Env} {s : State} {m : MethodId} {below : List Frame} {meth : Method} {c : Code} {dC : Nat → ClassId} {dI : Nat → Nat → Nat} {b L : Nat} {xs : Nat → Int32} (C0 : lw_At p s m meth c b L xs) (hL6 : L = 6) {hc_ hm_ : Nat} {ad ar am : Nat → Nat} {H : Heap} {locs : List Loc} (hK : va_K (dC, dI) vwCl [] s) (hP : va_P (dC, dI) vwCl [(hc_, .inr (11, [.ref (ad 0), .ref (ad 1), .ref (ad 2), .ref (ad 3), .ref (ad 4), .ref (ad 5), .ref (ad 6), .ref (ad 7), .ref (ad 8), .int 0, .int 0, .int 0, .int 0])), (ad 2, .inr (4, [.ref (ar 0), .int 0, .ref (ar 2), .ref (ar 3), .ref (ar 4), .ref (ar 5), .ref (ar 6), .ref (ar 7), .int 0, .ref (ar 9), .ref (ar 10), .ref (ar 11), .int 0])), (hm_, .inr (12, [.int 0, .int 0, .ref (am 2), .ref (am 3), .ref (am 4), .int 0, .ref (am 6), .ref (am 7), .ref (am 8), .int 0, .ref (am 10), .ref (am 11), .ref (am 12), .ref (am 13), .ref (am 14), .ref (am 15), .int 0, .ref (am 17), .ref (am 18), .ref (am 19), .ref (am 20), .int 0, .ref (am 22), .int 0, .ref (am 24), .ref (am 25), .ref (am 26), .ref (am 27), .ref (am 28), .ref (am 29), .int 0, .ref (am 31), .ref (am 32), .ref (am 33), .int 0, .ref (am 35), .int 0, .ref (am 37), .ref (am 38), .ref (am 39), .ref (am 40), .ref (am 41), .ref (am 42), .ref (am 43), .int 0, .ref (am 45), .ref (am 46), .ref (am 47), .int 0, .ref (am 49), .int 0, .ref (am 51), .int 0, .ref (am 53), .ref (am 54), .int 1, .int 0, .ref (am 57), .long 0, .ref (am 59), .ref (am 60), .long 0, .int 0, .int 0, .int 0, .int 0, .int 0, .int 0, .ref (am 68), .int 0, .int 0, .ref (am 71), .ref (am 72), .ref (am 73), .ref (am 74), .ref (am 75), .ref (am 76), .ref (am 77), .ref (am 78)]))] H) (hD : va_D (fun q : Nat => s.heap.size ≤ q) [(hc_, .inr (11, [.ref (ad 0), .ref (ad 1), .ref (ad 2), .ref (ad 3), .ref (ad 4), .ref (ad 5), .ref (ad 6), .ref (ad 7), .ref (ad 8), .int 0, .int 0, .int 0, .int 0])), (ad 2, .inr (4, [.ref (ar 0), .int 0, .ref (ar 2), .ref (ar 3), .ref (ar 4), .ref (ar 5), .ref (ar 6), .ref (ar 7), .int 0, .ref (ar 9), .ref (ar 10), .ref (ar 11), .int 0])), (hm_, .inr (12, [.int 0, .int 0, .ref (am 2), .ref (am 3), .ref (am 4), .int 0, .ref (am 6), .ref (am 7), .ref (am 8), .int 0, .ref (am 10), .ref (am 11), .ref (am 12), .ref (am 13), .ref (am 14), .ref (am 15), .int 0, .ref (am 17), .ref (am 18), .ref (am 19), .ref (am 20), .int 0, .ref (am 22), .int 0, .ref (am 24), .ref (am 25), .ref (am 26), .ref (am 27), .ref (am 28), .ref (am 29), .int 0, .ref (am 31), .ref (am 32), .ref (am 33), .int 0, .ref (am 35), .int 0, .ref (am 37), .ref (am 38), .ref (am 39), .ref (am 40), .ref (am 41), .ref (am 42), .ref (am 43), .int 0, .ref (am 45), .ref (am 46), .ref (am 47), .int 0, .ref (am 49), .int 0, .ref (am 51), .int 0, .ref (am 53), .ref (am 54), .int 1, .int 0, .ref (am 57), .long 0, .ref (am 59), .ref (am 60), .long 0, .int 0, .int 0, .int 0, .int 0, .int 0, .int 0, .ref (am 68), .int 0, .int 0, .ref (am 71), .ref (am 72), .ref (am 73), .ref (am 74), .ref (am 75), .ref (am 76), .ref (am 77), .ref (am 78)]))]) (hS : va_S (fun q : Nat => s.heap.size ≤ q) s.heap H locs) (ls : Array Slot) (hl : lv_has ls 4 [(3, .int 0), (2, .ref hm_), (1, .ref hc_), (0, .ref b)]) : W p l e room_1 s m #[Value.ref b] below meth c H locs 124 5628 (lw_Z below #[Value.ref b] s) (F0 m 820 ls []) := by
  obtain ⟨hx, hb, hr, hml, hown, hts, hX, hbl, hlocks, hgv⟩ := id C0
  have hown : s.vm.findClass RL = some m.cls := hown
  have hb : c.code = cL_law := hb
  generalize hAe : (fun q : Nat => s.heap.size ≤ q) = A at hD hS 
  have hA : ∀ q : Nat, s.heap.size ≤ q → A q := fun q h => by rw [← hAe]; exact h
  have hbA : ¬ A b := by rw [← hAe]; exact Nat.not_le.mpr hbl
  refine lv_aload_n hx hb dL_law_820 rfl (lv_at hl 2 rfl) ?_
  refine lv_aload_n hx hb dL_law_821 rfl (lv_at hl 3 rfl) ?_
  refine lv_iload_n hx hb dL_law_822 rfl (lv_at hl 0 rfl) ?_
  refine lv_iconst (v := 1) hx hb dL_law_823 (by decide) ?_
  refine lv_iadd hx hb dL_law_824 ?_
  refine lv_topi (fun y_1 ey_1 => ?_)
  obtain rfl : y_1 = 1 := ey_1.trans (by decide)
  refine va_sld hx hb hX hbl hbA hS (by rw [hL6]; unfold vp_in; decide) dL_law_825 ?_
  have hPc := hP.sub (ws' := [(hc_, .inr (11, [.ref (ad 0), .ref (ad 1), .ref (ad 2), .ref (ad 3), .ref (ad 4), .ref (ad 5), .ref (ad 6), .ref (ad 7), .ref (ad 8), .int 0, .int 0, .int 0, .int 0])), (ad 2, .inr (4, [.ref (ar 0), .int 0, .ref (ar 2), .ref (ar 3), .ref (ar 4), .ref (ar 5), .ref (ar 6), .ref (ar 7), .int 0, .ref (ar 9), .ref (ar 10), .ref (ar 11), .int 0]))]) [0, 1] rfl
  have hKc := hK.sub (tys' := []) [] rfl
  refine vp_callSi (va_Run.run (va_runV (As := [.int (xs (1 : Int32).toNatClampNeg)]) (rest := []) ⟨hx, hb, hml, hown, hts⟩ (rt_X11_isTrue l dC dI hc_ ad ar (xs (1 : Int32).toNatClampNeg)) (cwV 1 hts gL_law_X11_isTrue rfl rfl rfl (by decide +kernel) ⟨Nat.le_of_ble_eq_true rfl, Nat.le_of_ble_eq_true rfl⟩) ⟨fun a U g mk q => by obtain ⟨q0, qP, qK⟩ := q; exact ⟨q0, qP, va_K.moved (u := U) (U := U.calling g mk a) (Vm.Alike.refl U.vm) qK⟩, va_recv hKc hPc (ci := 11) (q0 := 0) rfl rfl, fun U hU hW => ⟨rfl, by rw [hU]; exact hPc, va_K.moved hW.alike hKc⟩⟩ rfl rfl hl.1 rfl (lv_room (Nat.le_of_ble_eq_true rfl)) dL_law_826 ⟨by decide +kernel, by decide +kernel⟩)) (fun r_2 hr_2 => ?_)
  obtain rfl := hr_2
  refine lv_aload_n hx hb dL_law_829 rfl (lv_at hl 1 rfl) ?_
  refine lv_aload_n hx hb dL_law_830 rfl (lv_at hl 3 rfl) ?_
  refine lv_iload_n hx hb dL_law_831 rfl (lv_at hl 0 rfl) ?_
  refine lv_iconst (v := 1) hx hb dL_law_832 (by decide) ?_
  refine lv_iadd hx hb dL_law_833 ?_
  refine lv_topi (fun y_3 ey_3 => ?_)
  obtain rfl : y_3 = 1 := ey_3.trans (by decide)
  refine va_sld hx hb hX hbl hbA hS (by rw [hL6]; unfold vp_in; decide) dL_law_834 ?_
  have hPc := hP.sub (ws' := [(hm_, .inr (12, [.int 0, .int 0, .ref (am 2), .ref (am 3), .ref (am 4), .int 0, .ref (am 6), .ref (am 7), .ref (am 8), .int 0, .ref (am 10), .ref (am 11), .ref (am 12), .ref (am 13), .ref (am 14), .ref (am 15), .int 0, .ref (am 17), .ref (am 18), .ref (am 19), .ref (am 20), .int 0, .ref (am 22), .int 0, .ref (am 24), .ref (am 25), .ref (am 26), .ref (am 27), .ref (am 28), .ref (am 29), .int 0, .ref (am 31), .ref (am 32), .ref (am 33), .int 0, .ref (am 35), .int 0, .ref (am 37), .ref (am 38), .ref (am 39), .ref (am 40), .ref (am 41), .ref (am 42), .ref (am 43), .int 0, .ref (am 45), .ref (am 46), .ref (am 47), .int 0, .ref (am 49), .int 0, .ref (am 51), .int 0, .ref (am 53), .ref (am 54), .int 1, .int 0, .ref (am 57), .long 0, .ref (am 59), .ref (am 60), .long 0, .int 0, .int 0, .int 0, .int 0, .int 0, .int 0, .ref (am 68), .int 0, .int 0, .ref (am 71), .ref (am 72), .ref (am 73), .ref (am 74), .ref (am 75), .ref (am 76), .ref (am 77), .ref (am 78)]))]) [2] rfl
  have hKc := hK.sub (tys' := []) [] rfl
  refine vp_callSi (va_Run.run (va_runV (As := [.int (xs (1 : Int32).toNatClampNeg)]) (rest := [.int (-2)]) ⟨hx, hb, hml, hown, hts⟩ (rt_X12_isTrue l dC dI hm_ am (xs (1 : Int32).toNatClampNeg)) (cwV 1 hts gL_law_X12_isTrue rfl rfl rfl (by decide +kernel) ⟨Nat.le_of_ble_eq_true rfl, Nat.le_of_ble_eq_true rfl⟩) ⟨fun a U g mk q => by obtain ⟨q0, qP, qK⟩ := q; exact ⟨q0, qP, va_K.moved (u := U) (U := U.calling g mk a) (Vm.Alike.refl U.vm) qK⟩, va_recv hKc hPc (ci := 12) (q0 := 0) rfl rfl, fun U hU hW => ⟨rfl, by rw [hU]; exact hPc, va_K.moved hW.alike hKc⟩⟩ rfl rfl hl.1 rfl (lv_room (Nat.le_of_ble_eq_true rfl)) dL_law_835 ⟨by decide +kernel, by decide +kernel⟩)) (fun r_4 hr_4 => ?_)
  obtain rfl := hr_4
  refine lv_icmp_eq (tgt := 1837) hx hb dL_law_838 (by decide) (fun _ => ?_) (fun c9 => absurd (by decide) c9)
  exact law_fin C0 hL6 hS (by decide +kernel) (by decide +kernel) ls (lv_sub hl [3, 2, 1, 0] rfl)
set_option maxHeartbeats 1000000 in
set_option maxRecDepth 100000 in
theorem law_b14 {p : Program} {l : Launch} {e : Env} {s : State} {m : MethodId} {below : List Frame} {meth : Method} {c : Code} {dC : Nat → ClassId} {dI : Nat → Nat → Nat} {b L : Nat} {xs : Nat → Int32} (C0 : lw_At p s m meth c b L xs) (hL6 : L = 6) {hc_ hm_ : Nat} {ad ae am : Nat → Nat} {ce cs : Nat → ClassId} {H : Heap} {locs : List Loc} (hK : va_K (dC, dI) vwCl [(ce 0, .long), (cs 35, .long)] s) (hP : va_P (dC, dI) vwCl [(hc_, .inr (11, [.ref (ad 0), .ref (ad 1), .ref (ad 2), .ref (ad 3), .ref (ad 4), .ref (ad 5), .ref (ad 6), .ref (ad 7), .ref (ad 8), .int 0, .int 0, .int 0, .int 0])), (ad 3, .inr (6, [.ref (ae 0), .int 0, .ref (ae 2), .long 0, .ref (ae 4), .ref (ae 5), .long 0])), (ae 0, .inl (ce 0, 16, .inr (.inl (fun _ => (0 : Int64))))), (hm_, .inr (12, [.int 0, .int 0, .ref (am 2), .ref (am 3), .ref (am 4), .int 0, .ref (am 6), .ref (am 7), .ref (am 8), .int 0, .ref (am 10), .ref (am 11), .ref (am 12), .ref (am 13), .ref (am 14), .ref (am 15), .int 0, .ref (am 17), .ref (am 18), .ref (am 19), .ref (am 20), .int 0, .ref (am 22), .int 0, .ref (am 24), .ref (am 25), .ref (am 26), .ref (am 27), .ref (am 28), .ref (am 29), .int 0, .ref (am 31), .ref (am 32), .ref (am 33), .int 0, .ref (am 35), .int 0, .ref (am 37), .ref (am 38), .ref (am 39), .ref (am 40), .ref (am 41), .ref (am 42), .ref (am 43), .int 0, .ref (am 45), .ref (am 46), .ref (am 47), .int 0, .ref (am 49), .int 0, .ref (am 51), .int 0, .ref (am 53), .ref (am 54), .int 1, .int 0, .ref (am 57), .long 0, .ref (am 59), .ref (am 60), .long 0, .int 0, .int 0, .int 0, .int 0, .int 0, .int 0, .ref (am 68), .int 0, .int 0, .ref (am 71), .ref (am 72), .ref (am 73), .ref (am 74), .ref (am 75), .ref (am 76), .ref (am 77), .ref (am 78)])), (am 35, .inl (cs 35, 16, .inr (.inl (fun _ => (0 : Int64)))))] H) (hD : va_D (fun q : Nat => s.heap.size ≤ q) [(hc_, .inr (11, [.ref (ad 0), .ref (ad 1), .ref (ad 2), .ref (ad 3), .ref (ad 4), .ref (ad 5), .ref (ad 6), .ref (ad 7), .ref (ad 8), .int 0, .int 0, .int 0, .int 0])), (ad 3, .inr (6, [.ref (ae 0), .int 0, .ref (ae 2), .long 0, .ref (ae 4), .ref (ae 5), .long 0])), (ae 0, .inl (ce 0, 16, .inr (.inl (fun _ => (0 : Int64))))), (hm_, .inr (12, [.int 0, .int 0, .ref (am 2), .ref (am 3), .ref (am 4), .int 0, .ref (am 6), .ref (am 7), .ref (am 8), .int 0, .ref (am 10), .ref (am 11), .ref (am 12), .ref (am 13), .ref (am 14), .ref (am 15), .int 0, .ref (am 17), .ref (am 18), .ref (am 19), .ref (am 20), .int 0, .ref (am 22), .int 0, .ref (am 24), .ref (am 25), .ref (am 26), .ref (am 27), .ref (am 28), .ref (am 29), .int 0, .ref (am 31), .ref (am 32), .ref (am 33), .int 0, .ref (am 35), .int 0, .ref (am 37), .ref (am 38), .ref (am 39), .ref (am 40), .ref (am 41), .ref (am 42), .ref (am 43), .int 0, .ref (am 45), .ref (am 46), .ref (am 47), .int 0, .ref (am 49), .int 0, .ref (am 51), .int 0, .ref (am 53), .ref (am 54), .int 1, .int 0, .ref (am 57), .long 0, .ref (am 59), .ref (am 60), .long 0, .int 0, .int 0, .int 0, .int 0, .int 0, .int 0, .ref (am 68), .int 0, .int 0, .ref (am 71), .ref (am 72), .ref (am 73), .ref (am 74), .ref (am 75), .ref (am 76), .ref (am 77), .ref (am 78)])), (am 35, .inl (cs 35, 16, .inr (.inl (fun _ => (0 : Int64)))))]) (hS : va_S (fun q : Nat => s.heap.size ≤ q) s.heap H locs) (ls : Array Slot) (hl : lv_has ls 4 [(3, .int 0), (2, .ref hm_), (1, .ref hc_), (0, .ref b)]) : W p l e room_1 s m #[Value.ref b] below meth c H locs 124 5628 (lw_Z below #[Value.ref b] s) (F0 m 843 ls []) := by
  obtain ⟨hx, hb, hr, hml, hown, hts, hX, hbl, hlocks, hgv⟩ := id C0
  have hown : s.vm.findClass RL = some m.cls := hown
  have hb : c.code = cL_law := hb
  generalize hAe : (fun q : Nat => s.heap.size ≤ q) = A at hD hS 
  have hA : ∀ q : Nat, s.heap.size ≤ q → A q := fun q h => by rw [← hAe]; exact h
  have hbA : ¬ A b := by rw [← hAe]; exact Nat.not_le.mpr hbl
  refine lv_aload_n hx hb dL_law_843 rfl (lv_at hl 2 rfl) ?_
  refine lv_aload_n hx hb dL_law_844 rfl (lv_at hl 3 rfl) ?_
  refine lv_iload_n hx hb dL_law_845 rfl (lv_at hl 0 rfl) ?_
  refine lv_iconst (v := 1) hx hb dL_law_846 (by decide) ?_
  refine lv_iadd hx hb dL_law_847 ?_
  refine lv_topi (fun y_1 ey_1 => ?_)
  obtain rfl : y_1 = 1 := ey_1.trans (by decide)
  refine va_sld hx hb hX hbl hbA hS (by rw [hL6]; unfold vp_in; decide) dL_law_848 ?_
  refine lv_i2l (v := (xs (1 : Int32).toNatClampNeg).toInt64) hx hb dL_law_849 rfl ?_
  refine lv_bipush (v := 32) hx hb dL_law_850 (by decide) ?_
  refine lv_lshl (v := ((xs (1 : Int32).toNatClampNeg).toInt64) <<< ((32 : Int32).toInt64 &&& 63)) hx hb dL_law_852 rfl ?_
  refine lv_aload_n hx hb dL_law_853 rfl (lv_at hl 3 rfl) ?_
  refine lv_iload_n hx hb dL_law_854 rfl (lv_at hl 0 rfl) ?_
  refine lv_iconst (v := 2) hx hb dL_law_855 (by decide) ?_
  refine lv_iadd hx hb dL_law_856 ?_
  refine lv_topi (fun y_2 ey_2 => ?_)
  obtain rfl : y_2 = 2 := ey_2.trans (by decide)
  refine va_sld hx hb hX hbl hbA hS (by rw [hL6]; unfold vp_in; decide) dL_law_857 ?_
  refine lv_i2l (v := (xs (2 : Int32).toNatClampNeg).toInt64) hx hb dL_law_858 rfl ?_
  refine lv_ldc2 (v := 4294967295) hx hb hown (hts (.constantLong RL 42 (4294967295)) (by decide +kernel)) dL_law_859 ?_
  refine lv_land hx hb dL_law_862 ?_
  refine lv_lor hx hb dL_law_863 ?_
  have hPc := hP.sub (ws' := [(hc_, .inr (11, [.ref (ad 0), .ref (ad 1), .ref (ad 2), .ref (ad 3), .ref (ad 4), .ref (ad 5), .ref (ad 6), .ref (ad 7), .ref (ad 8), .int 0, .int 0, .int 0, .int 0])), (ad 3, .inr (6, [.ref (ae 0), .int 0, .ref (ae 2), .long 0, .ref (ae 4), .ref (ae 5), .long 0])), (ae 0, .inl (ce 0, 16, .inr (.inl (fun _ => (0 : Int64)))))]) [0, 1, 2] rfl
  have hKc := hK.sub (tys' := [(ce 0, .long)]) [0] rfl
  have hDc := hD.sub (ws' := [(hc_, .inr (11, [.ref (ad 0), .ref (ad 1), .ref (ad 2), .ref (ad 3), .ref (ad 4), .ref (ad 5), .ref (ad 6), .ref (ad 7), .ref (ad 8), .int 0, .int 0, .int 0, .int 0])), (ad 3, .inr (6, [.ref (ae 0), .int 0, .ref (ae 2), .long 0, .ref (ae 4), .ref (ae 5), .long 0])), (ae 0, .inl (ce 0, 16, .inr (.inl (fun _ => (0 : Int64)))))]) [0, 1, 2] (by decide) rfl
  have hFc := va_free (wc := [(hc_, .inr (11, [.ref (ad 0), .ref (ad 1), .ref (ad 2), .ref (ad 3), .ref (ad 4), .ref (ad 5), .ref (ad 6), .ref (ad 7), .ref (ad 8), .int 0, .int 0, .int 0, .int 0])), (ad 3, .inr (6, [.ref (ae 0), .int 0, .ref (ae 2), .long 0, .ref (ae 4), .ref (ae 5), .long 0])), (ae 0, .inl (ce 0, 16, .inr (.inl (fun _ => (0 : Int64)))))]) hD hS hA [0, 1, 2] rfl
  refine va_calli (va_runV (As := [.long ((((xs (1 : Int32).toNatClampNeg).toInt64) <<< ((32 : Int32).toInt64 &&& 63)) ||| (((xs (2 : Int32).toNatClampNeg).toInt64) &&& 4294967295))]) (rest := []) ⟨hx, hb, hml, hown, hts⟩ (rt_X11_lane l dC dI H.size hc_ ad ae (ce 0) (fun _ => (0 : Int64)) ((((xs (1 : Int32).toNatClampNeg).toInt64) <<< ((32 : Int32).toInt64 &&& 63)) ||| (((xs (2 : Int32).toNatClampNeg).toInt64) &&& 4294967295))) (cwV 1 hts gL_law_X11_lane rfl rfl rfl (by decide +kernel) ⟨Nat.le_of_ble_eq_true rfl, Nat.le_of_ble_eq_true rfl⟩) ⟨fun a U g mk q => by obtain ⟨q0, q1, qP, qK, qD⟩ := q; exact ⟨q0, q1, qP, va_K.moved (u := U) (U := U.calling g mk a) (Vm.Alike.refl U.vm) qK, qD⟩, va_recv hKc hPc (ci := 11) (q0 := 0) rfl rfl, fun U hU hW => ⟨rfl, by rw [hU], by rw [hU]; exact hPc, va_K.moved hW.alike hKc, hDc.weaken (fun _ _ _ _ => trivial)⟩⟩ rfl rfl hl.1 rfl (lv_room (Nat.le_of_ble_eq_true rfl)) dL_law_864 ⟨by decide +kernel, by decide +kernel⟩) hS (fun q _ h => hFc q h) hFc (fun r_3 u t H1 locs ht hvm hr_3 hB hz1 hk1 hS => ?_)
  obtain ⟨⟩ := u
  have hP1 : va_P (dC, dI) vwCl [] H1 := fun k q h => by simp at h
  have hD1 : va_D (va_A [(hc_, .inr (11, [.ref (ad 0), .ref (ad 1), .ref (ad 2), .ref (ad 3), .ref (ad 4), .ref (ad 5), .ref (ad 6), .ref (ad 7), .ref (ad 8), .int 0, .int 0, .int 0, .int 0])), (ad 3, .inr (6, [.ref (ae 0), .int 0, .ref (ae 2), .long 0, .ref (ae 4), .ref (ae 5), .long 0])), (ae 0, .inl (ce 0, 16, .inr (.inl (fun _ => (0 : Int64)))))] H.size) [] := ⟨fun i j p q h => by simp at h, fun k q h => by simp at h⟩
  obtain ⟨hP, hD⟩ := va_join (wr := [(hm_, .inr (12, [.int 0, .int 0, .ref (am 2), .ref (am 3), .ref (am 4), .int 0, .ref (am 6), .ref (am 7), .ref (am 8), .int 0, .ref (am 10), .ref (am 11), .ref (am 12), .ref (am 13), .ref (am 14), .ref (am 15), .int 0, .ref (am 17), .ref (am 18), .ref (am 19), .ref (am 20), .int 0, .ref (am 22), .int 0, .ref (am 24), .ref (am 25), .ref (am 26), .ref (am 27), .ref (am 28), .ref (am 29), .int 0, .ref (am 31), .ref (am 32), .ref (am 33), .int 0, .ref (am 35), .int 0, .ref (am 37), .ref (am 38), .ref (am 39), .ref (am 40), .ref (am 41), .ref (am 42), .ref (am 43), .int 0, .ref (am 45), .ref (am 46), .ref (am 47), .int 0, .ref (am 49), .int 0, .ref (am 51), .int 0, .ref (am 53), .ref (am 54), .int 1, .int 0, .ref (am 57), .long 0, .ref (am 59), .ref (am 60), .long 0, .int 0, .int 0, .int 0, .int 0, .int 0, .int 0, .ref (am 68), .int 0, .int 0, .ref (am 71), .ref (am 72), .ref (am 73), .ref (am 74), .ref (am 75), .ref (am 76), .ref (am 77), .ref (am 78)])), (am 35, .inl (cs 35, 16, .inr (.inl (fun _ => (0 : Int64)))))]) (w1 := []) hP hD [0, 1, 2] [3, 4] rfl rfl (by decide) (by decide) hk1 hFc hP1 hD1
  generalize H1 = H at hP hS ⊢
  have hP : va_P (dC, dI) vwCl [(hm_, .inr (12, [.int 0, .int 0, .ref (am 2), .ref (am 3), .ref (am 4), .int 0, .ref (am 6), .ref (am 7), .ref (am 8), .int 0, .ref (am 10), .ref (am 11), .ref (am 12), .ref (am 13), .ref (am 14), .ref (am 15), .int 0, .ref (am 17), .ref (am 18), .ref (am 19), .ref (am 20), .int 0, .ref (am 22), .int 0, .ref (am 24), .ref (am 25), .ref (am 26), .ref (am 27), .ref (am 28), .ref (am 29), .int 0, .ref (am 31), .ref (am 32), .ref (am 33), .int 0, .ref (am 35), .int 0, .ref (am 37), .ref (am 38), .ref (am 39), .ref (am 40), .ref (am 41), .ref (am 42), .ref (am 43), .int 0, .ref (am 45), .ref (am 46), .ref (am 47), .int 0, .ref (am 49), .int 0, .ref (am 51), .int 0, .ref (am 53), .ref (am 54), .int 1, .int 0, .ref (am 57), .long 0, .ref (am 59), .ref (am 60), .long 0, .int 0, .int 0, .int 0, .int 0, .int 0, .int 0, .ref (am 68), .int 0, .int 0, .ref (am 71), .ref (am 72), .ref (am 73), .ref (am 74), .ref (am 75), .ref (am 76), .ref (am 77), .ref (am 78)])), (am 35, .inl (cs 35, 16, .inr (.inl (fun _ => (0 : Int64)))))] H := hP
  have hD : va_D A [(hm_, .inr (12, [.int 0, .int 0, .ref (am 2), .ref (am 3), .ref (am 4), .int 0, .ref (am 6), .ref (am 7), .ref (am 8), .int 0, .ref (am 10), .ref (am 11), .ref (am 12), .ref (am 13), .ref (am 14), .ref (am 15), .int 0, .ref (am 17), .ref (am 18), .ref (am 19), .ref (am 20), .int 0, .ref (am 22), .int 0, .ref (am 24), .ref (am 25), .ref (am 26), .ref (am 27), .ref (am 28), .ref (am 29), .int 0, .ref (am 31), .ref (am 32), .ref (am 33), .int 0, .ref (am 35), .int 0, .ref (am 37), .ref (am 38), .ref (am 39), .ref (am 40), .ref (am 41), .ref (am 42), .ref (am 43), .int 0, .ref (am 45), .ref (am 46), .ref (am 47), .int 0, .ref (am 49), .int 0, .ref (am 51), .int 0, .ref (am 53), .ref (am 54), .int 1, .int 0, .ref (am 57), .long 0, .ref (am 59), .ref (am 60), .long 0, .int 0, .int 0, .int 0, .int 0, .int 0, .int 0, .ref (am 68), .int 0, .int 0, .ref (am 71), .ref (am 72), .ref (am 73), .ref (am 74), .ref (am 75), .ref (am 76), .ref (am 77), .ref (am 78)])), (am 35, .inl (cs 35, 16, .inr (.inl (fun _ => (0 : Int64)))))] := hD
  try dsimp only at hr_3
  refine lv_aload_n hx hb dL_law_867 rfl (lv_at hl 1 rfl) ?_
  refine lv_aload_n hx hb dL_law_868 rfl (lv_at hl 3 rfl) ?_
  refine lv_iload_n hx hb dL_law_869 rfl (lv_at hl 0 rfl) ?_
  refine lv_iconst (v := 1) hx hb dL_law_870 (by decide) ?_
  refine lv_iadd hx hb dL_law_871 ?_
  refine lv_topi (fun y_4 ey_4 => ?_)
  obtain rfl : y_4 = 1 := ey_4.trans (by decide)
  refine va_sld hx hb hX hbl hbA hS (by rw [hL6]; unfold vp_in; decide) dL_law_872 ?_
  refine lv_i2l (v := (xs (1 : Int32).toNatClampNeg).toInt64) hx hb dL_law_873 rfl ?_
  refine lv_bipush (v := 32) hx hb dL_law_874 (by decide) ?_
  refine lv_lshl (v := ((xs (1 : Int32).toNatClampNeg).toInt64) <<< ((32 : Int32).toInt64 &&& 63)) hx hb dL_law_876 rfl ?_
  refine lv_aload_n hx hb dL_law_877 rfl (lv_at hl 3 rfl) ?_
  refine lv_iload_n hx hb dL_law_878 rfl (lv_at hl 0 rfl) ?_
  refine lv_iconst (v := 2) hx hb dL_law_879 (by decide) ?_
  refine lv_iadd hx hb dL_law_880 ?_
  refine lv_topi (fun y_5 ey_5 => ?_)
  obtain rfl : y_5 = 2 := ey_5.trans (by decide)
  refine va_sld hx hb hX hbl hbA hS (by rw [hL6]; unfold vp_in; decide) dL_law_881 ?_
  refine lv_i2l (v := (xs (2 : Int32).toNatClampNeg).toInt64) hx hb dL_law_882 rfl ?_
  refine lv_ldc2 (v := 4294967295) hx hb hown (hts (.constantLong RL 42 (4294967295)) (by decide +kernel)) dL_law_883 ?_
  refine lv_land hx hb dL_law_886 ?_
  refine lv_lor hx hb dL_law_887 ?_
  have hPc := hP.sub (ws' := [(hm_, .inr (12, [.int 0, .int 0, .ref (am 2), .ref (am 3), .ref (am 4), .int 0, .ref (am 6), .ref (am 7), .ref (am 8), .int 0, .ref (am 10), .ref (am 11), .ref (am 12), .ref (am 13), .ref (am 14), .ref (am 15), .int 0, .ref (am 17), .ref (am 18), .ref (am 19), .ref (am 20), .int 0, .ref (am 22), .int 0, .ref (am 24), .ref (am 25), .ref (am 26), .ref (am 27), .ref (am 28), .ref (am 29), .int 0, .ref (am 31), .ref (am 32), .ref (am 33), .int 0, .ref (am 35), .int 0, .ref (am 37), .ref (am 38), .ref (am 39), .ref (am 40), .ref (am 41), .ref (am 42), .ref (am 43), .int 0, .ref (am 45), .ref (am 46), .ref (am 47), .int 0, .ref (am 49), .int 0, .ref (am 51), .int 0, .ref (am 53), .ref (am 54), .int 1, .int 0, .ref (am 57), .long 0, .ref (am 59), .ref (am 60), .long 0, .int 0, .int 0, .int 0, .int 0, .int 0, .int 0, .ref (am 68), .int 0, .int 0, .ref (am 71), .ref (am 72), .ref (am 73), .ref (am 74), .ref (am 75), .ref (am 76), .ref (am 77), .ref (am 78)])), (am 35, .inl (cs 35, 16, .inr (.inl ((fun k => match k with  | _ => (fun _ => (0 : Int64))) 35))))]) [0, 1] rfl
  have hKc := hK.sub (tys' := [(cs 35, .long)]) [1] rfl
  have hDc := hD.sub (ws' := [(hm_, .inr (12, [.int 0, .int 0, .ref (am 2), .ref (am 3), .ref (am 4), .int 0, .ref (am 6), .ref (am 7), .ref (am 8), .int 0, .ref (am 10), .ref (am 11), .ref (am 12), .ref (am 13), .ref (am 14), .ref (am 15), .int 0, .ref (am 17), .ref (am 18), .ref (am 19), .ref (am 20), .int 0, .ref (am 22), .int 0, .ref (am 24), .ref (am 25), .ref (am 26), .ref (am 27), .ref (am 28), .ref (am 29), .int 0, .ref (am 31), .ref (am 32), .ref (am 33), .int 0, .ref (am 35), .int 0, .ref (am 37), .ref (am 38), .ref (am 39), .ref (am 40), .ref (am 41), .ref (am 42), .ref (am 43), .int 0, .ref (am 45), .ref (am 46), .ref (am 47), .int 0, .ref (am 49), .int 0, .ref (am 51), .int 0, .ref (am 53), .ref (am 54), .int 1, .int 0, .ref (am 57), .long 0, .ref (am 59), .ref (am 60), .long 0, .int 0, .int 0, .int 0, .int 0, .int 0, .int 0, .ref (am 68), .int 0, .int 0, .ref (am 71), .ref (am 72), .ref (am 73), .ref (am 74), .ref (am 75), .ref (am 76), .ref (am 77), .ref (am 78)])), (am 35, .inl (cs 35, 16, .inr (.inl ((fun k => match k with  | _ => (fun _ => (0 : Int64))) 35))))]) [0, 1] (by decide) rfl
  have hFc := va_free (wc := [(hm_, .inr (12, [.int 0, .int 0, .ref (am 2), .ref (am 3), .ref (am 4), .int 0, .ref (am 6), .ref (am 7), .ref (am 8), .int 0, .ref (am 10), .ref (am 11), .ref (am 12), .ref (am 13), .ref (am 14), .ref (am 15), .int 0, .ref (am 17), .ref (am 18), .ref (am 19), .ref (am 20), .int 0, .ref (am 22), .int 0, .ref (am 24), .ref (am 25), .ref (am 26), .ref (am 27), .ref (am 28), .ref (am 29), .int 0, .ref (am 31), .ref (am 32), .ref (am 33), .int 0, .ref (am 35), .int 0, .ref (am 37), .ref (am 38), .ref (am 39), .ref (am 40), .ref (am 41), .ref (am 42), .ref (am 43), .int 0, .ref (am 45), .ref (am 46), .ref (am 47), .int 0, .ref (am 49), .int 0, .ref (am 51), .int 0, .ref (am 53), .ref (am 54), .int 1, .int 0, .ref (am 57), .long 0, .ref (am 59), .ref (am 60), .long 0, .int 0, .int 0, .int 0, .int 0, .int 0, .int 0, .ref (am 68), .int 0, .int 0, .ref (am 71), .ref (am 72), .ref (am 73), .ref (am 74), .ref (am 75), .ref (am 76), .ref (am 77), .ref (am 78)])), (am 35, .inl (cs 35, 16, .inr (.inl ((fun k => match k with  | _ => (fun _ => (0 : Int64))) 35))))]) hD hS hA [0, 1] rfl
  refine va_calli (va_runV (As := [.long ((((xs (1 : Int32).toNatClampNeg).toInt64) <<< ((32 : Int32).toInt64 &&& 63)) ||| (((xs (2 : Int32).toNatClampNeg).toInt64) &&& 4294967295))]) (rest := [.int r_3]) ⟨hx, hb, hml, hown, hts⟩ (rt_X12_lane l dC dI H.size hm_ am cs (fun k => match k with  | _ => (fun _ => (0 : Int64))) ((((xs (1 : Int32).toNatClampNeg).toInt64) <<< ((32 : Int32).toInt64 &&& 63)) ||| (((xs (2 : Int32).toNatClampNeg).toInt64) &&& 4294967295))) (cwV 1 hts gL_law_X12_lane rfl rfl rfl (by decide +kernel) ⟨Nat.le_of_ble_eq_true rfl, Nat.le_of_ble_eq_true rfl⟩) ⟨fun a U g mk q => by obtain ⟨q0, q1, qP, qK, qD⟩ := q; exact ⟨q0, q1, qP, va_K.moved (u := U) (U := U.calling g mk a) (Vm.Alike.refl U.vm) qK, qD⟩, va_recv hKc hPc (ci := 12) (q0 := 0) rfl rfl, fun U hU hW => ⟨rfl, by rw [hU], by rw [hU]; exact hPc, va_K.moved hW.alike hKc, hDc.weaken (fun _ _ _ _ => trivial)⟩⟩ rfl rfl hl.1 rfl (lv_room (Nat.le_of_ble_eq_true rfl)) dL_law_888 ⟨by decide +kernel, by decide +kernel⟩) hS (fun q _ h => hFc q h) hFc (fun r_6 u t H1 locs ht hvm hr_6 hB hz1 hk1 hS => ?_)
  obtain ⟨⟩ := u
  have hP1 : va_P (dC, dI) vwCl [] H1 := fun k q h => by simp at h
  have hD1 : va_D (va_A [(hm_, .inr (12, [.int 0, .int 0, .ref (am 2), .ref (am 3), .ref (am 4), .int 0, .ref (am 6), .ref (am 7), .ref (am 8), .int 0, .ref (am 10), .ref (am 11), .ref (am 12), .ref (am 13), .ref (am 14), .ref (am 15), .int 0, .ref (am 17), .ref (am 18), .ref (am 19), .ref (am 20), .int 0, .ref (am 22), .int 0, .ref (am 24), .ref (am 25), .ref (am 26), .ref (am 27), .ref (am 28), .ref (am 29), .int 0, .ref (am 31), .ref (am 32), .ref (am 33), .int 0, .ref (am 35), .int 0, .ref (am 37), .ref (am 38), .ref (am 39), .ref (am 40), .ref (am 41), .ref (am 42), .ref (am 43), .int 0, .ref (am 45), .ref (am 46), .ref (am 47), .int 0, .ref (am 49), .int 0, .ref (am 51), .int 0, .ref (am 53), .ref (am 54), .int 1, .int 0, .ref (am 57), .long 0, .ref (am 59), .ref (am 60), .long 0, .int 0, .int 0, .int 0, .int 0, .int 0, .int 0, .ref (am 68), .int 0, .int 0, .ref (am 71), .ref (am 72), .ref (am 73), .ref (am 74), .ref (am 75), .ref (am 76), .ref (am 77), .ref (am 78)])), (am 35, .inl (cs 35, 16, .inr (.inl ((fun k => match k with  | _ => (fun _ => (0 : Int64))) 35))))] H.size) [] := ⟨fun i j p q h => by simp at h, fun k q h => by simp at h⟩
  obtain ⟨hP, hD⟩ := va_join (wr := []) (w1 := []) hP hD [0, 1] [] rfl rfl (by decide) (by decide) hk1 hFc hP1 hD1
  generalize H1 = H at hP hS ⊢
  have hP : va_P (dC, dI) vwCl [] H := hP
  have hD : va_D A [] := hD
  try dsimp only at hr_6
  have hq : (r_3 : Int32) = r_6 := by
    rcases hr_3 with ⟨a0, e0⟩ | ⟨a0, e0⟩ <;> rcases hr_6 with ⟨a1, e1⟩ | ⟨a1, e1⟩ <;> first | (rw [e0, e1]; done) | (exfalso; (try simp only [fa_lt, fa_le, fa_eq, fa_lt64, fa_le64, fa_eq64, Int32.reduceToInt, Int64.reduceToInt, zi_ite] at a0); (try simp only [fa_lt, fa_le, fa_eq, fa_lt64, fa_le64, fa_eq64, Int32.reduceToInt, Int64.reduceToInt, zi_ite] at a1); omega)
  refine lv_icmp_eq (tgt := 1837) hx hb dL_law_891 (by decide) (fun _ => ?_) (fun c9 => absurd hq c9)
  exact law_fin C0 hL6 hS (by decide +kernel) (by decide +kernel) ls (lv_sub hl [3, 2, 1, 0] rfl)
set_option maxHeartbeats 1000000 in
set_option maxRecDepth 100000 in
theorem law_b15 {p : Program} {l : Launch} {e : Env} {s : State} {m : MethodId} {below : List Frame} {meth : Method} {c : Code} {dC : Nat → ClassId} {dI : Nat → Nat → Nat} {b L : Nat} {xs : Nat → Int32} (C0 : lw_At p s m meth c b L xs) (hL6 : L = 6) {hc_ hm_ : Nat} {ad am : Nat → Nat} {H : Heap} {locs : List Loc} (hK : va_K (dC, dI) vwCl [] s) (hP : va_P (dC, dI) vwCl [(hc_, .inr (11, [.ref (ad 0), .ref (ad 1), .ref (ad 2), .ref (ad 3), .ref (ad 4), .ref (ad 5), .ref (ad 6), .ref (ad 7), .ref (ad 8), .int 0, .int 0, .int 0, .int 0])), (hm_, .inr (12, [.int 0, .int 0, .ref (am 2), .ref (am 3), .ref (am 4), .int 0, .ref (am 6), .ref (am 7), .ref (am 8), .int 0, .ref (am 10), .ref (am 11), .ref (am 12), .ref (am 13), .ref (am 14), .ref (am 15), .int 0, .ref (am 17), .ref (am 18), .ref (am 19), .ref (am 20), .int 0, .ref (am 22), .int 0, .ref (am 24), .ref (am 25), .ref (am 26), .ref (am 27), .ref (am 28), .ref (am 29), .int 0, .ref (am 31), .ref (am 32), .ref (am 33), .int 0, .ref (am 35), .int 0, .ref (am 37), .ref (am 38), .ref (am 39), .ref (am 40), .ref (am 41), .ref (am 42), .ref (am 43), .int 0, .ref (am 45), .ref (am 46), .ref (am 47), .int 0, .ref (am 49), .int 0, .ref (am 51), .int 0, .ref (am 53), .ref (am 54), .int 1, .int 0, .ref (am 57), .long 0, .ref (am 59), .ref (am 60), .long 0, .int 0, .int 0, .int 0, .int 0, .int 0, .int 0, .ref (am 68), .int 0, .int 0, .ref (am 71), .ref (am 72), .ref (am 73), .ref (am 74), .ref (am 75), .ref (am 76), .ref (am 77), .ref (am 78)]))] H) (hD : va_D (fun q : Nat => s.heap.size ≤ q) [(hc_, .inr (11, [.ref (ad 0), .ref (ad 1), .ref (ad 2), .ref (ad 3), .ref (ad 4), .ref (ad 5), .ref (ad 6), .ref (ad 7), .ref (ad 8), .int 0, .int 0, .int 0, .int 0])), (hm_, .inr (12, [.int 0, .int 0, .ref (am 2), .ref (am 3), .ref (am 4), .int 0, .ref (am 6), .ref (am 7), .ref (am 8), .int 0, .ref (am 10), .ref (am 11), .ref (am 12), .ref (am 13), .ref (am 14), .ref (am 15), .int 0, .ref (am 17), .ref (am 18), .ref (am 19), .ref (am 20), .int 0, .ref (am 22), .int 0, .ref (am 24), .ref (am 25), .ref (am 26), .ref (am 27), .ref (am 28), .ref (am 29), .int 0, .ref (am 31), .ref (am 32), .ref (am 33), .int 0, .ref (am 35), .int 0, .ref (am 37), .ref (am 38), .ref (am 39), .ref (am 40), .ref (am 41), .ref (am 42), .ref (am 43), .int 0, .ref (am 45), .ref (am 46), .ref (am 47), .int 0, .ref (am 49), .int 0, .ref (am 51), .int 0, .ref (am 53), .ref (am 54), .int 1, .int 0, .ref (am 57), .long 0, .ref (am 59), .ref (am 60), .long 0, .int 0, .int 0, .int 0, .int 0, .int 0, .int 0, .ref (am 68), .int 0, .int 0, .ref (am 71), .ref (am 72), .ref (am 73), .ref (am 74), .ref (am 75), .ref (am 76), .ref (am 77), .ref (am 78)]))]) (hS : va_S (fun q : Nat => s.heap.size ≤ q) s.heap H locs) (ls : Array Slot) (hl : lv_has ls 4 [(3, .int 0), (2, .ref hm_), (1, .ref hc_), (0, .ref b)]) : W p l e room_1 s m #[Value.ref b] below meth c H locs 124 5628 (lw_Z below #[Value.ref b] s) (F0 m 896 ls []) := by
  obtain ⟨hx, hb, hr, hml, hown, hts, hX, hbl, hlocks, hgv⟩ := id C0
  have hown : s.vm.findClass RL = some m.cls := hown
  have hb : c.code = cL_law := hb
  generalize hAe : (fun q : Nat => s.heap.size ≤ q) = A at hD hS 
  have hA : ∀ q : Nat, s.heap.size ≤ q → A q := fun q h => by rw [← hAe]; exact h
  have hbA : ¬ A b := by rw [← hAe]; exact Nat.not_le.mpr hbl
  refine lv_aload_n hx hb dL_law_896 rfl (lv_at hl 2 rfl) ?_
  refine lv_aload_n hx hb dL_law_897 rfl (lv_at hl 3 rfl) ?_
  refine lv_iload_n hx hb dL_law_898 rfl (lv_at hl 0 rfl) ?_
  refine lv_iconst (v := 1) hx hb dL_law_899 (by decide) ?_
  refine lv_iadd hx hb dL_law_900 ?_
  refine lv_topi (fun y_1 ey_1 => ?_)
  obtain rfl : y_1 = 1 := ey_1.trans (by decide)
  refine va_sld hx hb hX hbl hbA hS (by rw [hL6]; unfold vp_in; decide) dL_law_901 ?_
  refine lv_aload_n hx hb dL_law_902 rfl (lv_at hl 3 rfl) ?_
  refine lv_iload_n hx hb dL_law_903 rfl (lv_at hl 0 rfl) ?_
  refine lv_iconst (v := 2) hx hb dL_law_904 (by decide) ?_
  refine lv_iadd hx hb dL_law_905 ?_
  refine lv_topi (fun y_2 ey_2 => ?_)
  obtain rfl : y_2 = 2 := ey_2.trans (by decide)
  refine va_sld hx hb hX hbl hbA hS (by rw [hL6]; unfold vp_in; decide) dL_law_906 ?_
  refine lv_aload_n hx hb dL_law_907 rfl (lv_at hl 3 rfl) ?_
  refine lv_iload_n hx hb dL_law_908 rfl (lv_at hl 0 rfl) ?_
  refine lv_iconst (v := 3) hx hb dL_law_909 (by decide) ?_
  refine lv_iadd hx hb dL_law_910 ?_
  refine lv_topi (fun y_3 ey_3 => ?_)
  obtain rfl : y_3 = 3 := ey_3.trans (by decide)
  refine va_sld hx hb hX hbl hbA hS (by rw [hL6]; unfold vp_in; decide) dL_law_911 ?_
  have hPc := hP.sub (ws' := [(hc_, .inr (11, [.ref (ad 0), .ref (ad 1), .ref (ad 2), .ref (ad 3), .ref (ad 4), .ref (ad 5), .ref (ad 6), .ref (ad 7), .ref (ad 8), .int 0, .int 0, .int 0, .int 0]))]) [0] rfl
  have hKc := hK.sub (tys' := []) [] rfl
  refine vp_callSi (va_Run.run (va_runV (As := [.int (xs (1 : Int32).toNatClampNeg), .int (xs (2 : Int32).toNatClampNeg), .int (xs (3 : Int32).toNatClampNeg)]) (rest := []) ⟨hx, hb, hml, hown, hts⟩ (rt_X11_flown l dC dI hc_ ad (xs (1 : Int32).toNatClampNeg) (xs (2 : Int32).toNatClampNeg) (xs (3 : Int32).toNatClampNeg)) (cwV 3 hts gL_law_X11_flown rfl rfl rfl (by decide +kernel) ⟨Nat.le_of_ble_eq_true rfl, Nat.le_of_ble_eq_true rfl⟩) ⟨fun a U g mk q => by obtain ⟨q0, qP, qK⟩ := q; exact ⟨q0, qP, va_K.moved (u := U) (U := U.calling g mk a) (Vm.Alike.refl U.vm) qK⟩, va_recv hKc hPc (ci := 11) (q0 := 0) rfl rfl, fun U hU hW => ⟨rfl, by rw [hU]; exact hPc, va_K.moved hW.alike hKc⟩⟩ rfl rfl hl.1 rfl (lv_room (Nat.le_of_ble_eq_true rfl)) dL_law_912 ⟨by decide +kernel, by decide +kernel⟩)) (fun r_4 hr_4 => ?_)
  obtain rfl := hr_4
  refine lv_aload_n hx hb dL_law_915 rfl (lv_at hl 1 rfl) ?_
  refine lv_aload_n hx hb dL_law_916 rfl (lv_at hl 3 rfl) ?_
  refine lv_iload_n hx hb dL_law_917 rfl (lv_at hl 0 rfl) ?_
  refine lv_iconst (v := 1) hx hb dL_law_918 (by decide) ?_
  refine lv_iadd hx hb dL_law_919 ?_
  refine lv_topi (fun y_5 ey_5 => ?_)
  obtain rfl : y_5 = 1 := ey_5.trans (by decide)
  refine va_sld hx hb hX hbl hbA hS (by rw [hL6]; unfold vp_in; decide) dL_law_920 ?_
  refine lv_aload_n hx hb dL_law_921 rfl (lv_at hl 3 rfl) ?_
  refine lv_iload_n hx hb dL_law_922 rfl (lv_at hl 0 rfl) ?_
  refine lv_iconst (v := 2) hx hb dL_law_923 (by decide) ?_
  refine lv_iadd hx hb dL_law_924 ?_
  refine lv_topi (fun y_6 ey_6 => ?_)
  obtain rfl : y_6 = 2 := ey_6.trans (by decide)
  refine va_sld hx hb hX hbl hbA hS (by rw [hL6]; unfold vp_in; decide) dL_law_925 ?_
  refine lv_aload_n hx hb dL_law_926 rfl (lv_at hl 3 rfl) ?_
  refine lv_iload_n hx hb dL_law_927 rfl (lv_at hl 0 rfl) ?_
  refine lv_iconst (v := 3) hx hb dL_law_928 (by decide) ?_
  refine lv_iadd hx hb dL_law_929 ?_
  refine lv_topi (fun y_7 ey_7 => ?_)
  obtain rfl : y_7 = 3 := ey_7.trans (by decide)
  refine va_sld hx hb hX hbl hbA hS (by rw [hL6]; unfold vp_in; decide) dL_law_930 ?_
  have hPc := hP.sub (ws' := [(hm_, .inr (12, [.int 0, .int 0, .ref (am 2), .ref (am 3), .ref (am 4), .int 0, .ref (am 6), .ref (am 7), .ref (am 8), .int 0, .ref (am 10), .ref (am 11), .ref (am 12), .ref (am 13), .ref (am 14), .ref (am 15), .int 0, .ref (am 17), .ref (am 18), .ref (am 19), .ref (am 20), .int 0, .ref (am 22), .int 0, .ref (am 24), .ref (am 25), .ref (am 26), .ref (am 27), .ref (am 28), .ref (am 29), .int 0, .ref (am 31), .ref (am 32), .ref (am 33), .int 0, .ref (am 35), .int 0, .ref (am 37), .ref (am 38), .ref (am 39), .ref (am 40), .ref (am 41), .ref (am 42), .ref (am 43), .int 0, .ref (am 45), .ref (am 46), .ref (am 47), .int 0, .ref (am 49), .int 0, .ref (am 51), .int 0, .ref (am 53), .ref (am 54), .int 1, .int 0, .ref (am 57), .long 0, .ref (am 59), .ref (am 60), .long 0, .int 0, .int 0, .int 0, .int 0, .int 0, .int 0, .ref (am 68), .int 0, .int 0, .ref (am 71), .ref (am 72), .ref (am 73), .ref (am 74), .ref (am 75), .ref (am 76), .ref (am 77), .ref (am 78)]))]) [1] rfl
  have hKc := hK.sub (tys' := []) [] rfl
  refine vp_callSi (va_Run.run (va_runV (As := [.int (xs (1 : Int32).toNatClampNeg), .int (xs (2 : Int32).toNatClampNeg), .int (xs (3 : Int32).toNatClampNeg)]) (rest := [.int (-2)]) ⟨hx, hb, hml, hown, hts⟩ (rt_X12_flown l dC dI hm_ am (xs (1 : Int32).toNatClampNeg) (xs (2 : Int32).toNatClampNeg) (xs (3 : Int32).toNatClampNeg)) (cwV 3 hts gL_law_X12_flown rfl rfl rfl (by decide +kernel) ⟨Nat.le_of_ble_eq_true rfl, Nat.le_of_ble_eq_true rfl⟩) ⟨fun a U g mk q => by obtain ⟨q0, qP, qK⟩ := q; exact ⟨q0, qP, va_K.moved (u := U) (U := U.calling g mk a) (Vm.Alike.refl U.vm) qK⟩, va_recv hKc hPc (ci := 12) (q0 := 0) rfl rfl, fun U hU hW => ⟨rfl, by rw [hU]; exact hPc, va_K.moved hW.alike hKc⟩⟩ rfl rfl hl.1 rfl (lv_room (Nat.le_of_ble_eq_true rfl)) dL_law_931 ⟨by decide +kernel, by decide +kernel⟩)) (fun r_8 hr_8 => ?_)
  obtain rfl := hr_8
  refine lv_icmp_eq (tgt := 1837) hx hb dL_law_934 (by decide) (fun _ => ?_) (fun c9 => absurd (by decide) c9)
  exact law_fin C0 hL6 hS (by decide +kernel) (by decide +kernel) ls (lv_sub hl [3, 2, 1, 0] rfl)
set_option maxHeartbeats 1000000 in
set_option maxRecDepth 100000 in
theorem law_b16 {p : Program} {l : Launch} {e : Env} {s : State} {m : MethodId} {below : List Frame} {meth : Method} {c : Code} {dC : Nat → ClassId} {dI : Nat → Nat → Nat} {b L : Nat} {xs : Nat → Int32} (C0 : lw_At p s m meth c b L xs) (hL6 : L = 6) {hc_ hm_ : Nat} {ad am : Nat → Nat} {H : Heap} {locs : List Loc} (hK : va_K (dC, dI) vwCl [] s) (hP : va_P (dC, dI) vwCl [(hc_, .inr (11, [.ref (ad 0), .ref (ad 1), .ref (ad 2), .ref (ad 3), .ref (ad 4), .ref (ad 5), .ref (ad 6), .ref (ad 7), .ref (ad 8), .int 0, .int 0, .int 0, .int 0])), (hm_, .inr (12, [.int 0, .int 0, .ref (am 2), .ref (am 3), .ref (am 4), .int 0, .ref (am 6), .ref (am 7), .ref (am 8), .int 0, .ref (am 10), .ref (am 11), .ref (am 12), .ref (am 13), .ref (am 14), .ref (am 15), .int 0, .ref (am 17), .ref (am 18), .ref (am 19), .ref (am 20), .int 0, .ref (am 22), .int 0, .ref (am 24), .ref (am 25), .ref (am 26), .ref (am 27), .ref (am 28), .ref (am 29), .int 0, .ref (am 31), .ref (am 32), .ref (am 33), .int 0, .ref (am 35), .int 0, .ref (am 37), .ref (am 38), .ref (am 39), .ref (am 40), .ref (am 41), .ref (am 42), .ref (am 43), .int 0, .ref (am 45), .ref (am 46), .ref (am 47), .int 0, .ref (am 49), .int 0, .ref (am 51), .int 0, .ref (am 53), .ref (am 54), .int 1, .int 0, .ref (am 57), .long 0, .ref (am 59), .ref (am 60), .long 0, .int 0, .int 0, .int 0, .int 0, .int 0, .int 0, .ref (am 68), .int 0, .int 0, .ref (am 71), .ref (am 72), .ref (am 73), .ref (am 74), .ref (am 75), .ref (am 76), .ref (am 77), .ref (am 78)]))] H) (hD : va_D (fun q : Nat => s.heap.size ≤ q) [(hc_, .inr (11, [.ref (ad 0), .ref (ad 1), .ref (ad 2), .ref (ad 3), .ref (ad 4), .ref (ad 5), .ref (ad 6), .ref (ad 7), .ref (ad 8), .int 0, .int 0, .int 0, .int 0])), (hm_, .inr (12, [.int 0, .int 0, .ref (am 2), .ref (am 3), .ref (am 4), .int 0, .ref (am 6), .ref (am 7), .ref (am 8), .int 0, .ref (am 10), .ref (am 11), .ref (am 12), .ref (am 13), .ref (am 14), .ref (am 15), .int 0, .ref (am 17), .ref (am 18), .ref (am 19), .ref (am 20), .int 0, .ref (am 22), .int 0, .ref (am 24), .ref (am 25), .ref (am 26), .ref (am 27), .ref (am 28), .ref (am 29), .int 0, .ref (am 31), .ref (am 32), .ref (am 33), .int 0, .ref (am 35), .int 0, .ref (am 37), .ref (am 38), .ref (am 39), .ref (am 40), .ref (am 41), .ref (am 42), .ref (am 43), .int 0, .ref (am 45), .ref (am 46), .ref (am 47), .int 0, .ref (am 49), .int 0, .ref (am 51), .int 0, .ref (am 53), .ref (am 54), .int 1, .int 0, .ref (am 57), .long 0, .ref (am 59), .ref (am 60), .long 0, .int 0, .int 0, .int 0, .int 0, .int 0, .int 0, .ref (am 68), .int 0, .int 0, .ref (am 71), .ref (am 72), .ref (am 73), .ref (am 74), .ref (am 75), .ref (am 76), .ref (am 77), .ref (am 78)]))]) (hS : va_S (fun q : Nat => s.heap.size ≤ q) s.heap H locs) (ls : Array Slot) (hl : lv_has ls 4 [(3, .int 0), (2, .ref hm_), (1, .ref hc_), (0, .ref b)]) : W p l e room_1 s m #[Value.ref b] below meth c H locs 124 5628 (lw_Z below #[Value.ref b] s) (F0 m 939 ls []) := by
  obtain ⟨hx, hb, hr, hml, hown, hts, hX, hbl, hlocks, hgv⟩ := id C0
  have hown : s.vm.findClass RL = some m.cls := hown
  have hb : c.code = cL_law := hb
  generalize hAe : (fun q : Nat => s.heap.size ≤ q) = A at hD hS 
  have hA : ∀ q : Nat, s.heap.size ≤ q → A q := fun q h => by rw [← hAe]; exact h
  have hbA : ¬ A b := by rw [← hAe]; exact Nat.not_le.mpr hbl
  refine lv_aload_n hx hb dL_law_939 rfl (lv_at hl 2 rfl) ?_
  refine lv_aload_n hx hb dL_law_940 rfl (lv_at hl 3 rfl) ?_
  refine lv_iload_n hx hb dL_law_941 rfl (lv_at hl 0 rfl) ?_
  refine lv_iconst (v := 1) hx hb dL_law_942 (by decide) ?_
  refine lv_iadd hx hb dL_law_943 ?_
  refine lv_topi (fun y_1 ey_1 => ?_)
  obtain rfl : y_1 = 1 := ey_1.trans (by decide)
  refine va_sld hx hb hX hbl hbA hS (by rw [hL6]; unfold vp_in; decide) dL_law_944 ?_
  refine lv_aload_n hx hb dL_law_945 rfl (lv_at hl 3 rfl) ?_
  refine lv_iload_n hx hb dL_law_946 rfl (lv_at hl 0 rfl) ?_
  refine lv_iconst (v := 2) hx hb dL_law_947 (by decide) ?_
  refine lv_iadd hx hb dL_law_948 ?_
  refine lv_topi (fun y_2 ey_2 => ?_)
  obtain rfl : y_2 = 2 := ey_2.trans (by decide)
  refine va_sld hx hb hX hbl hbA hS (by rw [hL6]; unfold vp_in; decide) dL_law_949 ?_
  refine lv_aload_n hx hb dL_law_950 rfl (lv_at hl 3 rfl) ?_
  refine lv_iload_n hx hb dL_law_951 rfl (lv_at hl 0 rfl) ?_
  refine lv_iconst (v := 3) hx hb dL_law_952 (by decide) ?_
  refine lv_iadd hx hb dL_law_953 ?_
  refine lv_topi (fun y_3 ey_3 => ?_)
  obtain rfl : y_3 = 3 := ey_3.trans (by decide)
  refine va_sld hx hb hX hbl hbA hS (by rw [hL6]; unfold vp_in; decide) dL_law_954 ?_
  have hPc := hP.sub (ws' := [(hc_, .inr (11, [.ref (ad 0), .ref (ad 1), .ref (ad 2), .ref (ad 3), .ref (ad 4), .ref (ad 5), .ref (ad 6), .ref (ad 7), .ref (ad 8), .int 0, .int 0, .int 0, .int 0]))]) [0] rfl
  have hKc := hK.sub (tys' := []) [] rfl
  refine vp_callSl (va_Run.run (va_runV (As := [.int (xs (1 : Int32).toNatClampNeg), .int (xs (2 : Int32).toNatClampNeg), .int (xs (3 : Int32).toNatClampNeg)]) (rest := []) ⟨hx, hb, hml, hown, hts⟩ (rt_X11_share l dC dI hc_ ad (xs (1 : Int32).toNatClampNeg) (xs (2 : Int32).toNatClampNeg) (xs (3 : Int32).toNatClampNeg)) (cwV 3 hts gL_law_X11_share rfl rfl rfl (by decide +kernel) ⟨Nat.le_of_ble_eq_true rfl, Nat.le_of_ble_eq_true rfl⟩) ⟨fun a U g mk q => by obtain ⟨q0, qP, qK⟩ := q; exact ⟨q0, qP, va_K.moved (u := U) (U := U.calling g mk a) (Vm.Alike.refl U.vm) qK⟩, va_recv hKc hPc (ci := 11) (q0 := 0) rfl rfl, fun U hU hW => ⟨rfl, by rw [hU]; exact hPc, va_K.moved hW.alike hKc⟩⟩ rfl rfl hl.1 rfl (lv_room (Nat.le_of_ble_eq_true rfl)) dL_law_955 ⟨by decide +kernel, by decide +kernel⟩)) (fun r_4 hr_4 => ?_)
  obtain rfl := hr_4
  refine lv_aload_n hx hb dL_law_958 rfl (lv_at hl 1 rfl) ?_
  refine lv_aload_n hx hb dL_law_959 rfl (lv_at hl 3 rfl) ?_
  refine lv_iload_n hx hb dL_law_960 rfl (lv_at hl 0 rfl) ?_
  refine lv_iconst (v := 1) hx hb dL_law_961 (by decide) ?_
  refine lv_iadd hx hb dL_law_962 ?_
  refine lv_topi (fun y_5 ey_5 => ?_)
  obtain rfl : y_5 = 1 := ey_5.trans (by decide)
  refine va_sld hx hb hX hbl hbA hS (by rw [hL6]; unfold vp_in; decide) dL_law_963 ?_
  refine lv_aload_n hx hb dL_law_964 rfl (lv_at hl 3 rfl) ?_
  refine lv_iload_n hx hb dL_law_965 rfl (lv_at hl 0 rfl) ?_
  refine lv_iconst (v := 2) hx hb dL_law_966 (by decide) ?_
  refine lv_iadd hx hb dL_law_967 ?_
  refine lv_topi (fun y_6 ey_6 => ?_)
  obtain rfl : y_6 = 2 := ey_6.trans (by decide)
  refine va_sld hx hb hX hbl hbA hS (by rw [hL6]; unfold vp_in; decide) dL_law_968 ?_
  refine lv_aload_n hx hb dL_law_969 rfl (lv_at hl 3 rfl) ?_
  refine lv_iload_n hx hb dL_law_970 rfl (lv_at hl 0 rfl) ?_
  refine lv_iconst (v := 3) hx hb dL_law_971 (by decide) ?_
  refine lv_iadd hx hb dL_law_972 ?_
  refine lv_topi (fun y_7 ey_7 => ?_)
  obtain rfl : y_7 = 3 := ey_7.trans (by decide)
  refine va_sld hx hb hX hbl hbA hS (by rw [hL6]; unfold vp_in; decide) dL_law_973 ?_
  have hPc := hP.sub (ws' := [(hm_, .inr (12, [.int 0, .int 0, .ref (am 2), .ref (am 3), .ref (am 4), .int 0, .ref (am 6), .ref (am 7), .ref (am 8), .int 0, .ref (am 10), .ref (am 11), .ref (am 12), .ref (am 13), .ref (am 14), .ref (am 15), .int 0, .ref (am 17), .ref (am 18), .ref (am 19), .ref (am 20), .int 0, .ref (am 22), .int 0, .ref (am 24), .ref (am 25), .ref (am 26), .ref (am 27), .ref (am 28), .ref (am 29), .int 0, .ref (am 31), .ref (am 32), .ref (am 33), .int 0, .ref (am 35), .int 0, .ref (am 37), .ref (am 38), .ref (am 39), .ref (am 40), .ref (am 41), .ref (am 42), .ref (am 43), .int 0, .ref (am 45), .ref (am 46), .ref (am 47), .int 0, .ref (am 49), .int 0, .ref (am 51), .int 0, .ref (am 53), .ref (am 54), .int 1, .int 0, .ref (am 57), .long 0, .ref (am 59), .ref (am 60), .long 0, .int 0, .int 0, .int 0, .int 0, .int 0, .int 0, .ref (am 68), .int 0, .int 0, .ref (am 71), .ref (am 72), .ref (am 73), .ref (am 74), .ref (am 75), .ref (am 76), .ref (am 77), .ref (am 78)]))]) [1] rfl
  have hKc := hK.sub (tys' := []) [] rfl
  refine vp_callSl (va_Run.run (va_runV (As := [.int (xs (1 : Int32).toNatClampNeg), .int (xs (2 : Int32).toNatClampNeg), .int (xs (3 : Int32).toNatClampNeg)]) (rest := [.long (-4611686018427387904)]) ⟨hx, hb, hml, hown, hts⟩ (rt_X12_share l dC dI hm_ am (xs (1 : Int32).toNatClampNeg) (xs (2 : Int32).toNatClampNeg) (xs (3 : Int32).toNatClampNeg)) (cwV 3 hts gL_law_X12_share rfl rfl rfl (by decide +kernel) ⟨Nat.le_of_ble_eq_true rfl, Nat.le_of_ble_eq_true rfl⟩) ⟨fun a U g mk q => by obtain ⟨q0, qP, qK⟩ := q; exact ⟨q0, qP, va_K.moved (u := U) (U := U.calling g mk a) (Vm.Alike.refl U.vm) qK⟩, va_recv hKc hPc (ci := 12) (q0 := 0) rfl rfl, fun U hU hW => ⟨rfl, by rw [hU]; exact hPc, va_K.moved hW.alike hKc⟩⟩ rfl rfl hl.1 rfl (lv_room (Nat.le_of_ble_eq_true rfl)) dL_law_974 ⟨by decide +kernel, by decide +kernel⟩)) (fun r_8 hr_8 => ?_)
  obtain rfl := hr_8
  refine W.lcmp hx hb dL_law_977 ?_
  refine lv_topi (fun y_9 ey_9 => ?_)
  obtain rfl : y_9 = 0 := ey_9.trans (by decide)
  refine lv_if_eq (tgt := 1837) hx hb dL_law_978 (by decide) (fun _ => ?_) (fun c9 => absurd (by decide) c9)
  exact law_fin C0 hL6 hS (by decide +kernel) (by decide +kernel) ls (lv_sub hl [3, 2, 1, 0] rfl)
set_option maxHeartbeats 1000000 in
set_option maxRecDepth 100000 in
theorem law_b17 {p : Program} {l : Launch} {e : Env} {s : State} {m : MethodId} {below : List Frame} {meth : Method} {c : Code} {dC : Nat → ClassId} {dI : Nat → Nat → Nat} {b L : Nat} {xs : Nat → Int32} (C0 : lw_At p s m meth c b L xs) (hL6 : L = 6) {hc_ hm_ : Nat} {ad am : Nat → Nat} {H : Heap} {locs : List Loc} (hK : va_K (dC, dI) vwCl [] s) (hP : va_P (dC, dI) vwCl [(hc_, .inr (11, [.ref (ad 0), .ref (ad 1), .ref (ad 2), .ref (ad 3), .ref (ad 4), .ref (ad 5), .ref (ad 6), .ref (ad 7), .ref (ad 8), .int 0, .int 0, .int 0, .int 0])), (hm_, .inr (12, [.int 0, .int 0, .ref (am 2), .ref (am 3), .ref (am 4), .int 0, .ref (am 6), .ref (am 7), .ref (am 8), .int 0, .ref (am 10), .ref (am 11), .ref (am 12), .ref (am 13), .ref (am 14), .ref (am 15), .int 0, .ref (am 17), .ref (am 18), .ref (am 19), .ref (am 20), .int 0, .ref (am 22), .int 0, .ref (am 24), .ref (am 25), .ref (am 26), .ref (am 27), .ref (am 28), .ref (am 29), .int 0, .ref (am 31), .ref (am 32), .ref (am 33), .int 0, .ref (am 35), .int 0, .ref (am 37), .ref (am 38), .ref (am 39), .ref (am 40), .ref (am 41), .ref (am 42), .ref (am 43), .int 0, .ref (am 45), .ref (am 46), .ref (am 47), .int 0, .ref (am 49), .int 0, .ref (am 51), .int 0, .ref (am 53), .ref (am 54), .int 1, .int 0, .ref (am 57), .long 0, .ref (am 59), .ref (am 60), .long 0, .int 0, .int 0, .int 0, .int 0, .int 0, .int 0, .ref (am 68), .int 0, .int 0, .ref (am 71), .ref (am 72), .ref (am 73), .ref (am 74), .ref (am 75), .ref (am 76), .ref (am 77), .ref (am 78)]))] H) (hD : va_D (fun q : Nat => s.heap.size ≤ q) [(hc_, .inr (11, [.ref (ad 0), .ref (ad 1), .ref (ad 2), .ref (ad 3), .ref (ad 4), .ref (ad 5), .ref (ad 6), .ref (ad 7), .ref (ad 8), .int 0, .int 0, .int 0, .int 0])), (hm_, .inr (12, [.int 0, .int 0, .ref (am 2), .ref (am 3), .ref (am 4), .int 0, .ref (am 6), .ref (am 7), .ref (am 8), .int 0, .ref (am 10), .ref (am 11), .ref (am 12), .ref (am 13), .ref (am 14), .ref (am 15), .int 0, .ref (am 17), .ref (am 18), .ref (am 19), .ref (am 20), .int 0, .ref (am 22), .int 0, .ref (am 24), .ref (am 25), .ref (am 26), .ref (am 27), .ref (am 28), .ref (am 29), .int 0, .ref (am 31), .ref (am 32), .ref (am 33), .int 0, .ref (am 35), .int 0, .ref (am 37), .ref (am 38), .ref (am 39), .ref (am 40), .ref (am 41), .ref (am 42), .ref (am 43), .int 0, .ref (am 45), .ref (am 46), .ref (am 47), .int 0, .ref (am 49), .int 0, .ref (am 51), .int 0, .ref (am 53), .ref (am 54), .int 1, .int 0, .ref (am 57), .long 0, .ref (am 59), .ref (am 60), .long 0, .int 0, .int 0, .int 0, .int 0, .int 0, .int 0, .ref (am 68), .int 0, .int 0, .ref (am 71), .ref (am 72), .ref (am 73), .ref (am 74), .ref (am 75), .ref (am 76), .ref (am 77), .ref (am 78)]))]) (hS : va_S (fun q : Nat => s.heap.size ≤ q) s.heap H locs) (ls : Array Slot) (hl : lv_has ls 4 [(3, .int 0), (2, .ref hm_), (1, .ref hc_), (0, .ref b)]) : W p l e room_1 s m #[Value.ref b] below meth c H locs 124 5628 (lw_Z below #[Value.ref b] s) (F0 m 983 ls []) := by
  obtain ⟨hx, hb, hr, hml, hown, hts, hX, hbl, hlocks, hgv⟩ := id C0
  have hown : s.vm.findClass RL = some m.cls := hown
  have hb : c.code = cL_law := hb
  generalize hAe : (fun q : Nat => s.heap.size ≤ q) = A at hD hS 
  have hA : ∀ q : Nat, s.heap.size ≤ q → A q := fun q h => by rw [← hAe]; exact h
  have hbA : ¬ A b := by rw [← hAe]; exact Nat.not_le.mpr hbl
  refine lv_aload_n hx hb dL_law_983 rfl (lv_at hl 2 rfl) ?_
  refine lv_aload_n hx hb dL_law_984 rfl (lv_at hl 3 rfl) ?_
  refine lv_iload_n hx hb dL_law_985 rfl (lv_at hl 0 rfl) ?_
  refine lv_iconst (v := 1) hx hb dL_law_986 (by decide) ?_
  refine lv_iadd hx hb dL_law_987 ?_
  refine lv_topi (fun y_1 ey_1 => ?_)
  obtain rfl : y_1 = 1 := ey_1.trans (by decide)
  refine va_sld hx hb hX hbl hbA hS (by rw [hL6]; unfold vp_in; decide) dL_law_988 ?_
  refine lv_aload_n hx hb dL_law_989 rfl (lv_at hl 3 rfl) ?_
  refine lv_iload_n hx hb dL_law_990 rfl (lv_at hl 0 rfl) ?_
  refine lv_iconst (v := 2) hx hb dL_law_991 (by decide) ?_
  refine lv_iadd hx hb dL_law_992 ?_
  refine lv_topi (fun y_2 ey_2 => ?_)
  obtain rfl : y_2 = 2 := ey_2.trans (by decide)
  refine va_sld hx hb hX hbl hbA hS (by rw [hL6]; unfold vp_in; decide) dL_law_993 ?_
  refine lv_aload_n hx hb dL_law_994 rfl (lv_at hl 3 rfl) ?_
  refine lv_iload_n hx hb dL_law_995 rfl (lv_at hl 0 rfl) ?_
  refine lv_iconst (v := 3) hx hb dL_law_996 (by decide) ?_
  refine lv_iadd hx hb dL_law_997 ?_
  refine lv_topi (fun y_3 ey_3 => ?_)
  obtain rfl : y_3 = 3 := ey_3.trans (by decide)
  refine va_sld hx hb hX hbl hbA hS (by rw [hL6]; unfold vp_in; decide) dL_law_998 ?_
  refine lv_aload_n hx hb dL_law_999 rfl (lv_at hl 3 rfl) ?_
  refine lv_iload_n hx hb dL_law_1000 rfl (lv_at hl 0 rfl) ?_
  refine lv_iconst (v := 4) hx hb dL_law_1001 (by decide) ?_
  refine lv_iadd hx hb dL_law_1002 ?_
  refine lv_topi (fun y_4 ey_4 => ?_)
  obtain rfl : y_4 = 4 := ey_4.trans (by decide)
  refine va_sld hx hb hX hbl hbA hS (by rw [hL6]; unfold vp_in; decide) dL_law_1003 ?_
  have hPc := hP.sub (ws' := [(hc_, .inr (11, [.ref (ad 0), .ref (ad 1), .ref (ad 2), .ref (ad 3), .ref (ad 4), .ref (ad 5), .ref (ad 6), .ref (ad 7), .ref (ad 8), .int 0, .int 0, .int 0, .int 0]))]) [0] rfl
  have hKc := hK.sub (tys' := []) [] rfl
  refine vp_callSi (va_Run.run (va_runV (As := [.int (xs (1 : Int32).toNatClampNeg), .int (xs (2 : Int32).toNatClampNeg), .int (xs (3 : Int32).toNatClampNeg), .int (xs (4 : Int32).toNatClampNeg)]) (rest := []) ⟨hx, hb, hml, hown, hts⟩ (rt_X11_parted l dC dI hc_ ad (xs (1 : Int32).toNatClampNeg) (xs (2 : Int32).toNatClampNeg) (xs (3 : Int32).toNatClampNeg) (xs (4 : Int32).toNatClampNeg)) (cwV 4 hts gL_law_X11_parted rfl rfl rfl (by decide +kernel) ⟨Nat.le_of_ble_eq_true rfl, Nat.le_of_ble_eq_true rfl⟩) ⟨fun a U g mk q => by obtain ⟨q0, qP, qK⟩ := q; exact ⟨q0, qP, va_K.moved (u := U) (U := U.calling g mk a) (Vm.Alike.refl U.vm) qK⟩, va_recv hKc hPc (ci := 11) (q0 := 0) rfl rfl, fun U hU hW => ⟨rfl, by rw [hU]; exact hPc, va_K.moved hW.alike hKc⟩⟩ rfl rfl hl.1 rfl (lv_room (Nat.le_of_ble_eq_true rfl)) dL_law_1004 ⟨by decide +kernel, by decide +kernel⟩)) (fun r_5 hr_5 => ?_)
  obtain rfl := hr_5
  refine lv_aload_n hx hb dL_law_1007 rfl (lv_at hl 1 rfl) ?_
  refine lv_aload_n hx hb dL_law_1008 rfl (lv_at hl 3 rfl) ?_
  refine lv_iload_n hx hb dL_law_1009 rfl (lv_at hl 0 rfl) ?_
  refine lv_iconst (v := 1) hx hb dL_law_1010 (by decide) ?_
  refine lv_iadd hx hb dL_law_1011 ?_
  refine lv_topi (fun y_6 ey_6 => ?_)
  obtain rfl : y_6 = 1 := ey_6.trans (by decide)
  refine va_sld hx hb hX hbl hbA hS (by rw [hL6]; unfold vp_in; decide) dL_law_1012 ?_
  refine lv_aload_n hx hb dL_law_1013 rfl (lv_at hl 3 rfl) ?_
  refine lv_iload_n hx hb dL_law_1014 rfl (lv_at hl 0 rfl) ?_
  refine lv_iconst (v := 2) hx hb dL_law_1015 (by decide) ?_
  refine lv_iadd hx hb dL_law_1016 ?_
  refine lv_topi (fun y_7 ey_7 => ?_)
  obtain rfl : y_7 = 2 := ey_7.trans (by decide)
  refine va_sld hx hb hX hbl hbA hS (by rw [hL6]; unfold vp_in; decide) dL_law_1017 ?_
  refine lv_aload_n hx hb dL_law_1018 rfl (lv_at hl 3 rfl) ?_
  refine lv_iload_n hx hb dL_law_1019 rfl (lv_at hl 0 rfl) ?_
  refine lv_iconst (v := 3) hx hb dL_law_1020 (by decide) ?_
  refine lv_iadd hx hb dL_law_1021 ?_
  refine lv_topi (fun y_8 ey_8 => ?_)
  obtain rfl : y_8 = 3 := ey_8.trans (by decide)
  refine va_sld hx hb hX hbl hbA hS (by rw [hL6]; unfold vp_in; decide) dL_law_1022 ?_
  refine lv_aload_n hx hb dL_law_1023 rfl (lv_at hl 3 rfl) ?_
  refine lv_iload_n hx hb dL_law_1024 rfl (lv_at hl 0 rfl) ?_
  refine lv_iconst (v := 4) hx hb dL_law_1025 (by decide) ?_
  refine lv_iadd hx hb dL_law_1026 ?_
  refine lv_topi (fun y_9 ey_9 => ?_)
  obtain rfl : y_9 = 4 := ey_9.trans (by decide)
  refine va_sld hx hb hX hbl hbA hS (by rw [hL6]; unfold vp_in; decide) dL_law_1027 ?_
  have hPc := hP.sub (ws' := [(hm_, .inr (12, [.int 0, .int 0, .ref (am 2), .ref (am 3), .ref (am 4), .int 0, .ref (am 6), .ref (am 7), .ref (am 8), .int 0, .ref (am 10), .ref (am 11), .ref (am 12), .ref (am 13), .ref (am 14), .ref (am 15), .int 0, .ref (am 17), .ref (am 18), .ref (am 19), .ref (am 20), .int 0, .ref (am 22), .int 0, .ref (am 24), .ref (am 25), .ref (am 26), .ref (am 27), .ref (am 28), .ref (am 29), .int 0, .ref (am 31), .ref (am 32), .ref (am 33), .int 0, .ref (am 35), .int 0, .ref (am 37), .ref (am 38), .ref (am 39), .ref (am 40), .ref (am 41), .ref (am 42), .ref (am 43), .int 0, .ref (am 45), .ref (am 46), .ref (am 47), .int 0, .ref (am 49), .int 0, .ref (am 51), .int 0, .ref (am 53), .ref (am 54), .int 1, .int 0, .ref (am 57), .long 0, .ref (am 59), .ref (am 60), .long 0, .int 0, .int 0, .int 0, .int 0, .int 0, .int 0, .ref (am 68), .int 0, .int 0, .ref (am 71), .ref (am 72), .ref (am 73), .ref (am 74), .ref (am 75), .ref (am 76), .ref (am 77), .ref (am 78)]))]) [1] rfl
  have hKc := hK.sub (tys' := []) [] rfl
  refine vp_callSi (va_Run.run (va_runV (As := [.int (xs (1 : Int32).toNatClampNeg), .int (xs (2 : Int32).toNatClampNeg), .int (xs (3 : Int32).toNatClampNeg), .int (xs (4 : Int32).toNatClampNeg)]) (rest := [.int (-2)]) ⟨hx, hb, hml, hown, hts⟩ (rt_X12_parted l dC dI hm_ am (xs (1 : Int32).toNatClampNeg) (xs (2 : Int32).toNatClampNeg) (xs (3 : Int32).toNatClampNeg) (xs (4 : Int32).toNatClampNeg)) (cwV 4 hts gL_law_X12_parted rfl rfl rfl (by decide +kernel) ⟨Nat.le_of_ble_eq_true rfl, Nat.le_of_ble_eq_true rfl⟩) ⟨fun a U g mk q => by obtain ⟨q0, qP, qK⟩ := q; exact ⟨q0, qP, va_K.moved (u := U) (U := U.calling g mk a) (Vm.Alike.refl U.vm) qK⟩, va_recv hKc hPc (ci := 12) (q0 := 0) rfl rfl, fun U hU hW => ⟨rfl, by rw [hU]; exact hPc, va_K.moved hW.alike hKc⟩⟩ rfl rfl hl.1 rfl (lv_room (Nat.le_of_ble_eq_true rfl)) dL_law_1028 ⟨by decide +kernel, by decide +kernel⟩)) (fun r_10 hr_10 => ?_)
  obtain rfl := hr_10
  refine lv_icmp_eq (tgt := 1837) hx hb dL_law_1031 (by decide) (fun _ => ?_) (fun c9 => absurd (by decide) c9)
  exact law_fin C0 hL6 hS (by decide +kernel) (by decide +kernel) ls (lv_sub hl [3, 2, 1, 0] rfl)
set_option maxHeartbeats 1000000 in
set_option maxRecDepth 100000 in
theorem law_b18 {p : Program} {l : Launch} {e : Env} {s : State} {m : MethodId} {below : List Frame} {meth : Method} {c : Code} {dC : Nat → ClassId} {dI : Nat → Nat → Nat} {b L : Nat} {xs : Nat → Int32} (C0 : lw_At p s m meth c b L xs) (hL6 : L = 6) {hc_ hm_ : Nat} {ad am : Nat → Nat} {H : Heap} {locs : List Loc} (hK : va_K (dC, dI) vwCl [] s) (hP : va_P (dC, dI) vwCl [(hc_, .inr (11, [.ref (ad 0), .ref (ad 1), .ref (ad 2), .ref (ad 3), .ref (ad 4), .ref (ad 5), .ref (ad 6), .ref (ad 7), .ref (ad 8), .int 0, .int 0, .int 0, .int 0])), (hm_, .inr (12, [.int 0, .int 0, .ref (am 2), .ref (am 3), .ref (am 4), .int 0, .ref (am 6), .ref (am 7), .ref (am 8), .int 0, .ref (am 10), .ref (am 11), .ref (am 12), .ref (am 13), .ref (am 14), .ref (am 15), .int 0, .ref (am 17), .ref (am 18), .ref (am 19), .ref (am 20), .int 0, .ref (am 22), .int 0, .ref (am 24), .ref (am 25), .ref (am 26), .ref (am 27), .ref (am 28), .ref (am 29), .int 0, .ref (am 31), .ref (am 32), .ref (am 33), .int 0, .ref (am 35), .int 0, .ref (am 37), .ref (am 38), .ref (am 39), .ref (am 40), .ref (am 41), .ref (am 42), .ref (am 43), .int 0, .ref (am 45), .ref (am 46), .ref (am 47), .int 0, .ref (am 49), .int 0, .ref (am 51), .int 0, .ref (am 53), .ref (am 54), .int 1, .int 0, .ref (am 57), .long 0, .ref (am 59), .ref (am 60), .long 0, .int 0, .int 0, .int 0, .int 0, .int 0, .int 0, .ref (am 68), .int 0, .int 0, .ref (am 71), .ref (am 72), .ref (am 73), .ref (am 74), .ref (am 75), .ref (am 76), .ref (am 77), .ref (am 78)]))] H) (hD : va_D (fun q : Nat => s.heap.size ≤ q) [(hc_, .inr (11, [.ref (ad 0), .ref (ad 1), .ref (ad 2), .ref (ad 3), .ref (ad 4), .ref (ad 5), .ref (ad 6), .ref (ad 7), .ref (ad 8), .int 0, .int 0, .int 0, .int 0])), (hm_, .inr (12, [.int 0, .int 0, .ref (am 2), .ref (am 3), .ref (am 4), .int 0, .ref (am 6), .ref (am 7), .ref (am 8), .int 0, .ref (am 10), .ref (am 11), .ref (am 12), .ref (am 13), .ref (am 14), .ref (am 15), .int 0, .ref (am 17), .ref (am 18), .ref (am 19), .ref (am 20), .int 0, .ref (am 22), .int 0, .ref (am 24), .ref (am 25), .ref (am 26), .ref (am 27), .ref (am 28), .ref (am 29), .int 0, .ref (am 31), .ref (am 32), .ref (am 33), .int 0, .ref (am 35), .int 0, .ref (am 37), .ref (am 38), .ref (am 39), .ref (am 40), .ref (am 41), .ref (am 42), .ref (am 43), .int 0, .ref (am 45), .ref (am 46), .ref (am 47), .int 0, .ref (am 49), .int 0, .ref (am 51), .int 0, .ref (am 53), .ref (am 54), .int 1, .int 0, .ref (am 57), .long 0, .ref (am 59), .ref (am 60), .long 0, .int 0, .int 0, .int 0, .int 0, .int 0, .int 0, .ref (am 68), .int 0, .int 0, .ref (am 71), .ref (am 72), .ref (am 73), .ref (am 74), .ref (am 75), .ref (am 76), .ref (am 77), .ref (am 78)]))]) (hS : va_S (fun q : Nat => s.heap.size ≤ q) s.heap H locs) (ls : Array Slot) (hl : lv_has ls 4 [(3, .int 0), (2, .ref hm_), (1, .ref hc_), (0, .ref b)]) : W p l e room_1 s m #[Value.ref b] below meth c H locs 124 5628 (lw_Z below #[Value.ref b] s) (F0 m 1036 ls []) := by
  obtain ⟨hx, hb, hr, hml, hown, hts, hX, hbl, hlocks, hgv⟩ := id C0
  have hown : s.vm.findClass RL = some m.cls := hown
  have hb : c.code = cL_law := hb
  generalize hAe : (fun q : Nat => s.heap.size ≤ q) = A at hD hS 
  have hA : ∀ q : Nat, s.heap.size ≤ q → A q := fun q h => by rw [← hAe]; exact h
  have hbA : ¬ A b := by rw [← hAe]; exact Nat.not_le.mpr hbl
  refine lv_aload_n hx hb dL_law_1036 rfl (lv_at hl 2 rfl) ?_
  refine lv_aload_n hx hb dL_law_1037 rfl (lv_at hl 3 rfl) ?_
  refine lv_iload_n hx hb dL_law_1038 rfl (lv_at hl 0 rfl) ?_
  refine lv_iconst (v := 1) hx hb dL_law_1039 (by decide) ?_
  refine lv_iadd hx hb dL_law_1040 ?_
  refine lv_topi (fun y_1 ey_1 => ?_)
  obtain rfl : y_1 = 1 := ey_1.trans (by decide)
  refine va_sld hx hb hX hbl hbA hS (by rw [hL6]; unfold vp_in; decide) dL_law_1041 ?_
  have hPc := hP.sub (ws' := [(hc_, .inr (11, [.ref (ad 0), .ref (ad 1), .ref (ad 2), .ref (ad 3), .ref (ad 4), .ref (ad 5), .ref (ad 6), .ref (ad 7), .ref (ad 8), .int 0, .int 0, .int 0, .int 0]))]) [0] rfl
  have hKc := hK.sub (tys' := []) [] rfl
  have hDc := hD.sub (ws' := [(hc_, .inr (11, [.ref (ad 0), .ref (ad 1), .ref (ad 2), .ref (ad 3), .ref (ad 4), .ref (ad 5), .ref (ad 6), .ref (ad 7), .ref (ad 8), .int 0, .int 0, .int 0, .int 0]))]) [0] (by decide) rfl
  have hFc := va_free (wc := [(hc_, .inr (11, [.ref (ad 0), .ref (ad 1), .ref (ad 2), .ref (ad 3), .ref (ad 4), .ref (ad 5), .ref (ad 6), .ref (ad 7), .ref (ad 8), .int 0, .int 0, .int 0, .int 0]))]) hD hS hA [0] rfl
  refine va_calli (va_runV (As := [.int (xs (1 : Int32).toNatClampNeg)]) (rest := []) ⟨hx, hb, hml, hown, hts⟩ (rt_X11_stays l dC dI H.size hc_ ad (xs (1 : Int32).toNatClampNeg)) (cwV 1 hts gL_law_X11_stays rfl rfl rfl (by decide +kernel) ⟨Nat.le_of_ble_eq_true rfl, Nat.le_of_ble_eq_true rfl⟩) ⟨fun a U g mk q => by obtain ⟨q0, q1, qP, qK, qD⟩ := q; exact ⟨q0, q1, qP, va_K.moved (u := U) (U := U.calling g mk a) (Vm.Alike.refl U.vm) qK, qD⟩, va_recv hKc hPc (ci := 11) (q0 := 0) rfl rfl, fun U hU hW => ⟨rfl, by rw [hU], by rw [hU]; exact hPc, va_K.moved hW.alike hKc, hDc.weaken (fun _ _ _ _ => trivial)⟩⟩ rfl rfl hl.1 rfl (lv_room (Nat.le_of_ble_eq_true rfl)) dL_law_1042 ⟨by decide +kernel, by decide +kernel⟩) hS (fun q _ h => hFc q h) hFc (fun r_2 u t H1 locs ht hvm hr_2 hB hz1 hk1 hS => ?_)
  obtain ⟨⟩ := u
  have hP1 : va_P (dC, dI) vwCl [] H1 := fun k q h => by simp at h
  have hD1 : va_D (va_A [(hc_, .inr (11, [.ref (ad 0), .ref (ad 1), .ref (ad 2), .ref (ad 3), .ref (ad 4), .ref (ad 5), .ref (ad 6), .ref (ad 7), .ref (ad 8), .int 0, .int 0, .int 0, .int 0]))] H.size) [] := ⟨fun i j p q h => by simp at h, fun k q h => by simp at h⟩
  obtain ⟨hP, hD⟩ := va_join (wr := [(hm_, .inr (12, [.int 0, .int 0, .ref (am 2), .ref (am 3), .ref (am 4), .int 0, .ref (am 6), .ref (am 7), .ref (am 8), .int 0, .ref (am 10), .ref (am 11), .ref (am 12), .ref (am 13), .ref (am 14), .ref (am 15), .int 0, .ref (am 17), .ref (am 18), .ref (am 19), .ref (am 20), .int 0, .ref (am 22), .int 0, .ref (am 24), .ref (am 25), .ref (am 26), .ref (am 27), .ref (am 28), .ref (am 29), .int 0, .ref (am 31), .ref (am 32), .ref (am 33), .int 0, .ref (am 35), .int 0, .ref (am 37), .ref (am 38), .ref (am 39), .ref (am 40), .ref (am 41), .ref (am 42), .ref (am 43), .int 0, .ref (am 45), .ref (am 46), .ref (am 47), .int 0, .ref (am 49), .int 0, .ref (am 51), .int 0, .ref (am 53), .ref (am 54), .int 1, .int 0, .ref (am 57), .long 0, .ref (am 59), .ref (am 60), .long 0, .int 0, .int 0, .int 0, .int 0, .int 0, .int 0, .ref (am 68), .int 0, .int 0, .ref (am 71), .ref (am 72), .ref (am 73), .ref (am 74), .ref (am 75), .ref (am 76), .ref (am 77), .ref (am 78)]))]) (w1 := []) hP hD [0] [1] rfl rfl (by decide) (by decide) hk1 hFc hP1 hD1
  generalize H1 = H at hP hS ⊢
  have hP : va_P (dC, dI) vwCl [(hm_, .inr (12, [.int 0, .int 0, .ref (am 2), .ref (am 3), .ref (am 4), .int 0, .ref (am 6), .ref (am 7), .ref (am 8), .int 0, .ref (am 10), .ref (am 11), .ref (am 12), .ref (am 13), .ref (am 14), .ref (am 15), .int 0, .ref (am 17), .ref (am 18), .ref (am 19), .ref (am 20), .int 0, .ref (am 22), .int 0, .ref (am 24), .ref (am 25), .ref (am 26), .ref (am 27), .ref (am 28), .ref (am 29), .int 0, .ref (am 31), .ref (am 32), .ref (am 33), .int 0, .ref (am 35), .int 0, .ref (am 37), .ref (am 38), .ref (am 39), .ref (am 40), .ref (am 41), .ref (am 42), .ref (am 43), .int 0, .ref (am 45), .ref (am 46), .ref (am 47), .int 0, .ref (am 49), .int 0, .ref (am 51), .int 0, .ref (am 53), .ref (am 54), .int 1, .int 0, .ref (am 57), .long 0, .ref (am 59), .ref (am 60), .long 0, .int 0, .int 0, .int 0, .int 0, .int 0, .int 0, .ref (am 68), .int 0, .int 0, .ref (am 71), .ref (am 72), .ref (am 73), .ref (am 74), .ref (am 75), .ref (am 76), .ref (am 77), .ref (am 78)]))] H := hP
  have hD : va_D A [(hm_, .inr (12, [.int 0, .int 0, .ref (am 2), .ref (am 3), .ref (am 4), .int 0, .ref (am 6), .ref (am 7), .ref (am 8), .int 0, .ref (am 10), .ref (am 11), .ref (am 12), .ref (am 13), .ref (am 14), .ref (am 15), .int 0, .ref (am 17), .ref (am 18), .ref (am 19), .ref (am 20), .int 0, .ref (am 22), .int 0, .ref (am 24), .ref (am 25), .ref (am 26), .ref (am 27), .ref (am 28), .ref (am 29), .int 0, .ref (am 31), .ref (am 32), .ref (am 33), .int 0, .ref (am 35), .int 0, .ref (am 37), .ref (am 38), .ref (am 39), .ref (am 40), .ref (am 41), .ref (am 42), .ref (am 43), .int 0, .ref (am 45), .ref (am 46), .ref (am 47), .int 0, .ref (am 49), .int 0, .ref (am 51), .int 0, .ref (am 53), .ref (am 54), .int 1, .int 0, .ref (am 57), .long 0, .ref (am 59), .ref (am 60), .long 0, .int 0, .int 0, .int 0, .int 0, .int 0, .int 0, .ref (am 68), .int 0, .int 0, .ref (am 71), .ref (am 72), .ref (am 73), .ref (am 74), .ref (am 75), .ref (am 76), .ref (am 77), .ref (am 78)]))] := hD
  try dsimp only at hr_2
  refine lv_aload_n hx hb dL_law_1045 rfl (lv_at hl 1 rfl) ?_
  refine lv_aload_n hx hb dL_law_1046 rfl (lv_at hl 3 rfl) ?_
  refine lv_iload_n hx hb dL_law_1047 rfl (lv_at hl 0 rfl) ?_
  refine lv_iconst (v := 1) hx hb dL_law_1048 (by decide) ?_
  refine lv_iadd hx hb dL_law_1049 ?_
  refine lv_topi (fun y_3 ey_3 => ?_)
  obtain rfl : y_3 = 1 := ey_3.trans (by decide)
  refine va_sld hx hb hX hbl hbA hS (by rw [hL6]; unfold vp_in; decide) dL_law_1050 ?_
  have hPc := hP.sub (ws' := [(hm_, .inr (12, [.int 0, .int 0, .ref (am 2), .ref (am 3), .ref (am 4), .int 0, .ref (am 6), .ref (am 7), .ref (am 8), .int 0, .ref (am 10), .ref (am 11), .ref (am 12), .ref (am 13), .ref (am 14), .ref (am 15), .int 0, .ref (am 17), .ref (am 18), .ref (am 19), .ref (am 20), .int 0, .ref (am 22), .int 0, .ref (am 24), .ref (am 25), .ref (am 26), .ref (am 27), .ref (am 28), .ref (am 29), .int 0, .ref (am 31), .ref (am 32), .ref (am 33), .int 0, .ref (am 35), .int 0, .ref (am 37), .ref (am 38), .ref (am 39), .ref (am 40), .ref (am 41), .ref (am 42), .ref (am 43), .int 0, .ref (am 45), .ref (am 46), .ref (am 47), .int 0, .ref (am 49), .int 0, .ref (am 51), .int 0, .ref (am 53), .ref (am 54), .int 1, .int 0, .ref (am 57), .long 0, .ref (am 59), .ref (am 60), .long 0, .int 0, .int 0, .int 0, .int 0, .int 0, .int 0, .ref (am 68), .int 0, .int 0, .ref (am 71), .ref (am 72), .ref (am 73), .ref (am 74), .ref (am 75), .ref (am 76), .ref (am 77), .ref (am 78)]))]) [0] rfl
  have hKc := hK.sub (tys' := []) [] rfl
  have hDc := hD.sub (ws' := [(hm_, .inr (12, [.int 0, .int 0, .ref (am 2), .ref (am 3), .ref (am 4), .int 0, .ref (am 6), .ref (am 7), .ref (am 8), .int 0, .ref (am 10), .ref (am 11), .ref (am 12), .ref (am 13), .ref (am 14), .ref (am 15), .int 0, .ref (am 17), .ref (am 18), .ref (am 19), .ref (am 20), .int 0, .ref (am 22), .int 0, .ref (am 24), .ref (am 25), .ref (am 26), .ref (am 27), .ref (am 28), .ref (am 29), .int 0, .ref (am 31), .ref (am 32), .ref (am 33), .int 0, .ref (am 35), .int 0, .ref (am 37), .ref (am 38), .ref (am 39), .ref (am 40), .ref (am 41), .ref (am 42), .ref (am 43), .int 0, .ref (am 45), .ref (am 46), .ref (am 47), .int 0, .ref (am 49), .int 0, .ref (am 51), .int 0, .ref (am 53), .ref (am 54), .int 1, .int 0, .ref (am 57), .long 0, .ref (am 59), .ref (am 60), .long 0, .int 0, .int 0, .int 0, .int 0, .int 0, .int 0, .ref (am 68), .int 0, .int 0, .ref (am 71), .ref (am 72), .ref (am 73), .ref (am 74), .ref (am 75), .ref (am 76), .ref (am 77), .ref (am 78)]))]) [0] (by decide) rfl
  have hFc := va_free (wc := [(hm_, .inr (12, [.int 0, .int 0, .ref (am 2), .ref (am 3), .ref (am 4), .int 0, .ref (am 6), .ref (am 7), .ref (am 8), .int 0, .ref (am 10), .ref (am 11), .ref (am 12), .ref (am 13), .ref (am 14), .ref (am 15), .int 0, .ref (am 17), .ref (am 18), .ref (am 19), .ref (am 20), .int 0, .ref (am 22), .int 0, .ref (am 24), .ref (am 25), .ref (am 26), .ref (am 27), .ref (am 28), .ref (am 29), .int 0, .ref (am 31), .ref (am 32), .ref (am 33), .int 0, .ref (am 35), .int 0, .ref (am 37), .ref (am 38), .ref (am 39), .ref (am 40), .ref (am 41), .ref (am 42), .ref (am 43), .int 0, .ref (am 45), .ref (am 46), .ref (am 47), .int 0, .ref (am 49), .int 0, .ref (am 51), .int 0, .ref (am 53), .ref (am 54), .int 1, .int 0, .ref (am 57), .long 0, .ref (am 59), .ref (am 60), .long 0, .int 0, .int 0, .int 0, .int 0, .int 0, .int 0, .ref (am 68), .int 0, .int 0, .ref (am 71), .ref (am 72), .ref (am 73), .ref (am 74), .ref (am 75), .ref (am 76), .ref (am 77), .ref (am 78)]))]) hD hS hA [0] rfl
  refine va_calli (va_runV (As := [.int (xs (1 : Int32).toNatClampNeg)]) (rest := [.int r_2]) ⟨hx, hb, hml, hown, hts⟩ (rt_X12_stays l dC dI H.size hm_ am (xs (1 : Int32).toNatClampNeg)) (cwV 1 hts gL_law_X12_stays rfl rfl rfl (by decide +kernel) ⟨Nat.le_of_ble_eq_true rfl, Nat.le_of_ble_eq_true rfl⟩) ⟨fun a U g mk q => by obtain ⟨q0, q1, qP, qK, qD⟩ := q; exact ⟨q0, q1, qP, va_K.moved (u := U) (U := U.calling g mk a) (Vm.Alike.refl U.vm) qK, qD⟩, va_recv hKc hPc (ci := 12) (q0 := 0) rfl rfl, fun U hU hW => ⟨rfl, by rw [hU], by rw [hU]; exact hPc, va_K.moved hW.alike hKc, hDc.weaken (fun _ _ _ _ => trivial)⟩⟩ rfl rfl hl.1 rfl (lv_room (Nat.le_of_ble_eq_true rfl)) dL_law_1051 ⟨by decide +kernel, by decide +kernel⟩) hS (fun q _ h => hFc q h) hFc (fun r_4 u t H1 locs ht hvm hr_4 hB hz1 hk1 hS => ?_)
  obtain ⟨⟩ := u
  have hP1 : va_P (dC, dI) vwCl [] H1 := fun k q h => by simp at h
  have hD1 : va_D (va_A [(hm_, .inr (12, [.int 0, .int 0, .ref (am 2), .ref (am 3), .ref (am 4), .int 0, .ref (am 6), .ref (am 7), .ref (am 8), .int 0, .ref (am 10), .ref (am 11), .ref (am 12), .ref (am 13), .ref (am 14), .ref (am 15), .int 0, .ref (am 17), .ref (am 18), .ref (am 19), .ref (am 20), .int 0, .ref (am 22), .int 0, .ref (am 24), .ref (am 25), .ref (am 26), .ref (am 27), .ref (am 28), .ref (am 29), .int 0, .ref (am 31), .ref (am 32), .ref (am 33), .int 0, .ref (am 35), .int 0, .ref (am 37), .ref (am 38), .ref (am 39), .ref (am 40), .ref (am 41), .ref (am 42), .ref (am 43), .int 0, .ref (am 45), .ref (am 46), .ref (am 47), .int 0, .ref (am 49), .int 0, .ref (am 51), .int 0, .ref (am 53), .ref (am 54), .int 1, .int 0, .ref (am 57), .long 0, .ref (am 59), .ref (am 60), .long 0, .int 0, .int 0, .int 0, .int 0, .int 0, .int 0, .ref (am 68), .int 0, .int 0, .ref (am 71), .ref (am 72), .ref (am 73), .ref (am 74), .ref (am 75), .ref (am 76), .ref (am 77), .ref (am 78)]))] H.size) [] := ⟨fun i j p q h => by simp at h, fun k q h => by simp at h⟩
  obtain ⟨hP, hD⟩ := va_join (wr := []) (w1 := []) hP hD [0] [] rfl rfl (by decide) (by decide) hk1 hFc hP1 hD1
  generalize H1 = H at hP hS ⊢
  have hP : va_P (dC, dI) vwCl [] H := hP
  have hD : va_D A [] := hD
  try dsimp only at hr_4
  have hq : (r_2 : Int32) = r_4 := by
    rcases hr_2 with ⟨a0, e0⟩ | ⟨a0, e0⟩ <;> rcases hr_4 with ⟨a1, e1⟩ | ⟨a1, e1⟩ <;> first | (rw [e0, e1]; done) | (exfalso; (try simp only [fa_lt, fa_le, fa_eq, fa_lt64, fa_le64, fa_eq64, Int32.reduceToInt, Int64.reduceToInt, zi_ite] at a0); (try simp only [fa_lt, fa_le, fa_eq, fa_lt64, fa_le64, fa_eq64, Int32.reduceToInt, Int64.reduceToInt, zi_ite] at a1); omega)
  refine lv_icmp_eq (tgt := 1837) hx hb dL_law_1054 (by decide) (fun _ => ?_) (fun c9 => absurd hq c9)
  exact law_fin C0 hL6 hS (by decide +kernel) (by decide +kernel) ls (lv_sub hl [3, 2, 1, 0] rfl)
set_option maxHeartbeats 1000000 in
set_option maxRecDepth 100000 in
theorem law_b19 {p : Program} {l : Launch} {e : Env} {s : State} {m : MethodId} {below : List Frame} {meth : Method} {c : Code} {dC : Nat → ClassId} {dI : Nat → Nat → Nat} {b L : Nat} {xs : Nat → Int32} (C0 : lw_At p s m meth c b L xs) (hL6 : L = 6) {hc_ hm_ : Nat} {ad am : Nat → Nat} {H : Heap} {locs : List Loc} (hK : va_K (dC, dI) vwCl [] s) (hP : va_P (dC, dI) vwCl [(hc_, .inr (11, [.ref (ad 0), .ref (ad 1), .ref (ad 2), .ref (ad 3), .ref (ad 4), .ref (ad 5), .ref (ad 6), .ref (ad 7), .ref (ad 8), .int 0, .int 0, .int 0, .int 0])), (hm_, .inr (12, [.int 0, .int 0, .ref (am 2), .ref (am 3), .ref (am 4), .int 0, .ref (am 6), .ref (am 7), .ref (am 8), .int 0, .ref (am 10), .ref (am 11), .ref (am 12), .ref (am 13), .ref (am 14), .ref (am 15), .int 0, .ref (am 17), .ref (am 18), .ref (am 19), .ref (am 20), .int 0, .ref (am 22), .int 0, .ref (am 24), .ref (am 25), .ref (am 26), .ref (am 27), .ref (am 28), .ref (am 29), .int 0, .ref (am 31), .ref (am 32), .ref (am 33), .int 0, .ref (am 35), .int 0, .ref (am 37), .ref (am 38), .ref (am 39), .ref (am 40), .ref (am 41), .ref (am 42), .ref (am 43), .int 0, .ref (am 45), .ref (am 46), .ref (am 47), .int 0, .ref (am 49), .int 0, .ref (am 51), .int 0, .ref (am 53), .ref (am 54), .int 1, .int 0, .ref (am 57), .long 0, .ref (am 59), .ref (am 60), .long 0, .int 0, .int 0, .int 0, .int 0, .int 0, .int 0, .ref (am 68), .int 0, .int 0, .ref (am 71), .ref (am 72), .ref (am 73), .ref (am 74), .ref (am 75), .ref (am 76), .ref (am 77), .ref (am 78)]))] H) (hD : va_D (fun q : Nat => s.heap.size ≤ q) [(hc_, .inr (11, [.ref (ad 0), .ref (ad 1), .ref (ad 2), .ref (ad 3), .ref (ad 4), .ref (ad 5), .ref (ad 6), .ref (ad 7), .ref (ad 8), .int 0, .int 0, .int 0, .int 0])), (hm_, .inr (12, [.int 0, .int 0, .ref (am 2), .ref (am 3), .ref (am 4), .int 0, .ref (am 6), .ref (am 7), .ref (am 8), .int 0, .ref (am 10), .ref (am 11), .ref (am 12), .ref (am 13), .ref (am 14), .ref (am 15), .int 0, .ref (am 17), .ref (am 18), .ref (am 19), .ref (am 20), .int 0, .ref (am 22), .int 0, .ref (am 24), .ref (am 25), .ref (am 26), .ref (am 27), .ref (am 28), .ref (am 29), .int 0, .ref (am 31), .ref (am 32), .ref (am 33), .int 0, .ref (am 35), .int 0, .ref (am 37), .ref (am 38), .ref (am 39), .ref (am 40), .ref (am 41), .ref (am 42), .ref (am 43), .int 0, .ref (am 45), .ref (am 46), .ref (am 47), .int 0, .ref (am 49), .int 0, .ref (am 51), .int 0, .ref (am 53), .ref (am 54), .int 1, .int 0, .ref (am 57), .long 0, .ref (am 59), .ref (am 60), .long 0, .int 0, .int 0, .int 0, .int 0, .int 0, .int 0, .ref (am 68), .int 0, .int 0, .ref (am 71), .ref (am 72), .ref (am 73), .ref (am 74), .ref (am 75), .ref (am 76), .ref (am 77), .ref (am 78)]))]) (hS : va_S (fun q : Nat => s.heap.size ≤ q) s.heap H locs) (ls : Array Slot) (hl : lv_has ls 4 [(3, .int 0), (2, .ref hm_), (1, .ref hc_), (0, .ref b)]) : W p l e room_1 s m #[Value.ref b] below meth c H locs 124 5628 (lw_Z below #[Value.ref b] s) (F0 m 1059 ls []) := by
  obtain ⟨hx, hb, hr, hml, hown, hts, hX, hbl, hlocks, hgv⟩ := id C0
  have hown : s.vm.findClass RL = some m.cls := hown
  have hb : c.code = cL_law := hb
  generalize hAe : (fun q : Nat => s.heap.size ≤ q) = A at hD hS 
  have hA : ∀ q : Nat, s.heap.size ≤ q → A q := fun q h => by rw [← hAe]; exact h
  have hbA : ¬ A b := by rw [← hAe]; exact Nat.not_le.mpr hbl
  refine lv_aload_n hx hb dL_law_1059 rfl (lv_at hl 2 rfl) ?_
  refine lv_aload_n hx hb dL_law_1060 rfl (lv_at hl 3 rfl) ?_
  refine lv_iload_n hx hb dL_law_1061 rfl (lv_at hl 0 rfl) ?_
  refine lv_iconst (v := 1) hx hb dL_law_1062 (by decide) ?_
  refine lv_iadd hx hb dL_law_1063 ?_
  refine lv_topi (fun y_1 ey_1 => ?_)
  obtain rfl : y_1 = 1 := ey_1.trans (by decide)
  refine va_sld hx hb hX hbl hbA hS (by rw [hL6]; unfold vp_in; decide) dL_law_1064 ?_
  refine lv_aload_n hx hb dL_law_1065 rfl (lv_at hl 3 rfl) ?_
  refine lv_iload_n hx hb dL_law_1066 rfl (lv_at hl 0 rfl) ?_
  refine lv_iconst (v := 2) hx hb dL_law_1067 (by decide) ?_
  refine lv_iadd hx hb dL_law_1068 ?_
  refine lv_topi (fun y_2 ey_2 => ?_)
  obtain rfl : y_2 = 2 := ey_2.trans (by decide)
  refine va_sld hx hb hX hbl hbA hS (by rw [hL6]; unfold vp_in; decide) dL_law_1069 ?_
  refine lv_aload_n hx hb dL_law_1070 rfl (lv_at hl 3 rfl) ?_
  refine lv_iload_n hx hb dL_law_1071 rfl (lv_at hl 0 rfl) ?_
  refine lv_iconst (v := 3) hx hb dL_law_1072 (by decide) ?_
  refine lv_iadd hx hb dL_law_1073 ?_
  refine lv_topi (fun y_3 ey_3 => ?_)
  obtain rfl : y_3 = 3 := ey_3.trans (by decide)
  refine va_sld hx hb hX hbl hbA hS (by rw [hL6]; unfold vp_in; decide) dL_law_1074 ?_
  refine lv_aload_n hx hb dL_law_1075 rfl (lv_at hl 3 rfl) ?_
  refine lv_iload_n hx hb dL_law_1076 rfl (lv_at hl 0 rfl) ?_
  refine lv_iconst (v := 4) hx hb dL_law_1077 (by decide) ?_
  refine lv_iadd hx hb dL_law_1078 ?_
  refine lv_topi (fun y_4 ey_4 => ?_)
  obtain rfl : y_4 = 4 := ey_4.trans (by decide)
  refine va_sld hx hb hX hbl hbA hS (by rw [hL6]; unfold vp_in; decide) dL_law_1079 ?_
  have hPc := hP.sub (ws' := [(hc_, .inr (11, [.ref (ad 0), .ref (ad 1), .ref (ad 2), .ref (ad 3), .ref (ad 4), .ref (ad 5), .ref (ad 6), .ref (ad 7), .ref (ad 8), .int 0, .int 0, .int 0, .int 0]))]) [0] rfl
  have hKc := hK.sub (tys' := []) [] rfl
  refine vp_callSi (va_Run.run (va_runV (As := [.int (xs (1 : Int32).toNatClampNeg), .int (xs (2 : Int32).toNatClampNeg), .int (xs (3 : Int32).toNatClampNeg), .int (xs (4 : Int32).toNatClampNeg)]) (rest := []) ⟨hx, hb, hml, hown, hts⟩ (rt_X11_comes l dC dI hc_ ad (xs (1 : Int32).toNatClampNeg) (xs (2 : Int32).toNatClampNeg) (xs (3 : Int32).toNatClampNeg) (xs (4 : Int32).toNatClampNeg)) (cwV 4 hts gL_law_X11_comes rfl rfl rfl (by decide +kernel) ⟨Nat.le_of_ble_eq_true rfl, Nat.le_of_ble_eq_true rfl⟩) ⟨fun a U g mk q => by obtain ⟨q0, qP, qK⟩ := q; exact ⟨q0, qP, va_K.moved (u := U) (U := U.calling g mk a) (Vm.Alike.refl U.vm) qK⟩, va_recv hKc hPc (ci := 11) (q0 := 0) rfl rfl, fun U hU hW => ⟨rfl, by rw [hU]; exact hPc, va_K.moved hW.alike hKc⟩⟩ rfl rfl hl.1 rfl (lv_room (Nat.le_of_ble_eq_true rfl)) dL_law_1080 ⟨by decide +kernel, by decide +kernel⟩)) (fun r_5 hr_5 => ?_)
  obtain rfl := hr_5
  refine lv_aload_n hx hb dL_law_1083 rfl (lv_at hl 1 rfl) ?_
  refine lv_aload_n hx hb dL_law_1084 rfl (lv_at hl 3 rfl) ?_
  refine lv_iload_n hx hb dL_law_1085 rfl (lv_at hl 0 rfl) ?_
  refine lv_iconst (v := 1) hx hb dL_law_1086 (by decide) ?_
  refine lv_iadd hx hb dL_law_1087 ?_
  refine lv_topi (fun y_6 ey_6 => ?_)
  obtain rfl : y_6 = 1 := ey_6.trans (by decide)
  refine va_sld hx hb hX hbl hbA hS (by rw [hL6]; unfold vp_in; decide) dL_law_1088 ?_
  refine lv_aload_n hx hb dL_law_1089 rfl (lv_at hl 3 rfl) ?_
  refine lv_iload_n hx hb dL_law_1090 rfl (lv_at hl 0 rfl) ?_
  refine lv_iconst (v := 2) hx hb dL_law_1091 (by decide) ?_
  refine lv_iadd hx hb dL_law_1092 ?_
  refine lv_topi (fun y_7 ey_7 => ?_)
  obtain rfl : y_7 = 2 := ey_7.trans (by decide)
  refine va_sld hx hb hX hbl hbA hS (by rw [hL6]; unfold vp_in; decide) dL_law_1093 ?_
  refine lv_aload_n hx hb dL_law_1094 rfl (lv_at hl 3 rfl) ?_
  refine lv_iload_n hx hb dL_law_1095 rfl (lv_at hl 0 rfl) ?_
  refine lv_iconst (v := 3) hx hb dL_law_1096 (by decide) ?_
  refine lv_iadd hx hb dL_law_1097 ?_
  refine lv_topi (fun y_8 ey_8 => ?_)
  obtain rfl : y_8 = 3 := ey_8.trans (by decide)
  refine va_sld hx hb hX hbl hbA hS (by rw [hL6]; unfold vp_in; decide) dL_law_1098 ?_
  refine lv_aload_n hx hb dL_law_1099 rfl (lv_at hl 3 rfl) ?_
  refine lv_iload_n hx hb dL_law_1100 rfl (lv_at hl 0 rfl) ?_
  refine lv_iconst (v := 4) hx hb dL_law_1101 (by decide) ?_
  refine lv_iadd hx hb dL_law_1102 ?_
  refine lv_topi (fun y_9 ey_9 => ?_)
  obtain rfl : y_9 = 4 := ey_9.trans (by decide)
  refine va_sld hx hb hX hbl hbA hS (by rw [hL6]; unfold vp_in; decide) dL_law_1103 ?_
  have hPc := hP.sub (ws' := [(hm_, .inr (12, [.int 0, .int 0, .ref (am 2), .ref (am 3), .ref (am 4), .int 0, .ref (am 6), .ref (am 7), .ref (am 8), .int 0, .ref (am 10), .ref (am 11), .ref (am 12), .ref (am 13), .ref (am 14), .ref (am 15), .int 0, .ref (am 17), .ref (am 18), .ref (am 19), .ref (am 20), .int 0, .ref (am 22), .int 0, .ref (am 24), .ref (am 25), .ref (am 26), .ref (am 27), .ref (am 28), .ref (am 29), .int 0, .ref (am 31), .ref (am 32), .ref (am 33), .int 0, .ref (am 35), .int 0, .ref (am 37), .ref (am 38), .ref (am 39), .ref (am 40), .ref (am 41), .ref (am 42), .ref (am 43), .int 0, .ref (am 45), .ref (am 46), .ref (am 47), .int 0, .ref (am 49), .int 0, .ref (am 51), .int 0, .ref (am 53), .ref (am 54), .int 1, .int 0, .ref (am 57), .long 0, .ref (am 59), .ref (am 60), .long 0, .int 0, .int 0, .int 0, .int 0, .int 0, .int 0, .ref (am 68), .int 0, .int 0, .ref (am 71), .ref (am 72), .ref (am 73), .ref (am 74), .ref (am 75), .ref (am 76), .ref (am 77), .ref (am 78)]))]) [1] rfl
  have hKc := hK.sub (tys' := []) [] rfl
  refine vp_callSi (va_Run.run (va_runV (As := [.int (xs (1 : Int32).toNatClampNeg), .int (xs (2 : Int32).toNatClampNeg), .int (xs (3 : Int32).toNatClampNeg), .int (xs (4 : Int32).toNatClampNeg)]) (rest := [.int (-2)]) ⟨hx, hb, hml, hown, hts⟩ (rt_X12_comes l dC dI hm_ am (xs (1 : Int32).toNatClampNeg) (xs (2 : Int32).toNatClampNeg) (xs (3 : Int32).toNatClampNeg) (xs (4 : Int32).toNatClampNeg)) (cwV 4 hts gL_law_X12_comes rfl rfl rfl (by decide +kernel) ⟨Nat.le_of_ble_eq_true rfl, Nat.le_of_ble_eq_true rfl⟩) ⟨fun a U g mk q => by obtain ⟨q0, qP, qK⟩ := q; exact ⟨q0, qP, va_K.moved (u := U) (U := U.calling g mk a) (Vm.Alike.refl U.vm) qK⟩, va_recv hKc hPc (ci := 12) (q0 := 0) rfl rfl, fun U hU hW => ⟨rfl, by rw [hU]; exact hPc, va_K.moved hW.alike hKc⟩⟩ rfl rfl hl.1 rfl (lv_room (Nat.le_of_ble_eq_true rfl)) dL_law_1104 ⟨by decide +kernel, by decide +kernel⟩)) (fun r_10 hr_10 => ?_)
  obtain rfl := hr_10
  refine lv_icmp_eq (tgt := 1837) hx hb dL_law_1107 (by decide) (fun _ => ?_) (fun c9 => absurd (by decide) c9)
  exact law_fin C0 hL6 hS (by decide +kernel) (by decide +kernel) ls (lv_sub hl [3, 2, 1, 0] rfl)
set_option maxHeartbeats 1000000 in
set_option maxRecDepth 100000 in
theorem law_b20 {p : Program} {l : Launch} {e : Env} {s : State} {m : MethodId} {below : List Frame} {meth : Method} {c : Code} {dC : Nat → ClassId} {dI : Nat → Nat → Nat} {b L : Nat} {xs : Nat → Int32} (C0 : lw_At p s m meth c b L xs) (hL6 : L = 6) {hc_ hm_ : Nat} {ad am : Nat → Nat} {H : Heap} {locs : List Loc} (hK : va_K (dC, dI) vwCl [] s) (hP : va_P (dC, dI) vwCl [(hc_, .inr (11, [.ref (ad 0), .ref (ad 1), .ref (ad 2), .ref (ad 3), .ref (ad 4), .ref (ad 5), .ref (ad 6), .ref (ad 7), .ref (ad 8), .int 0, .int 0, .int 0, .int 0])), (hm_, .inr (12, [.int 0, .int 0, .ref (am 2), .ref (am 3), .ref (am 4), .int 0, .ref (am 6), .ref (am 7), .ref (am 8), .int 0, .ref (am 10), .ref (am 11), .ref (am 12), .ref (am 13), .ref (am 14), .ref (am 15), .int 0, .ref (am 17), .ref (am 18), .ref (am 19), .ref (am 20), .int 0, .ref (am 22), .int 0, .ref (am 24), .ref (am 25), .ref (am 26), .ref (am 27), .ref (am 28), .ref (am 29), .int 0, .ref (am 31), .ref (am 32), .ref (am 33), .int 0, .ref (am 35), .int 0, .ref (am 37), .ref (am 38), .ref (am 39), .ref (am 40), .ref (am 41), .ref (am 42), .ref (am 43), .int 0, .ref (am 45), .ref (am 46), .ref (am 47), .int 0, .ref (am 49), .int 0, .ref (am 51), .int 0, .ref (am 53), .ref (am 54), .int 1, .int 0, .ref (am 57), .long 0, .ref (am 59), .ref (am 60), .long 0, .int 0, .int 0, .int 0, .int 0, .int 0, .int 0, .ref (am 68), .int 0, .int 0, .ref (am 71), .ref (am 72), .ref (am 73), .ref (am 74), .ref (am 75), .ref (am 76), .ref (am 77), .ref (am 78)]))] H) (hD : va_D (fun q : Nat => s.heap.size ≤ q) [(hc_, .inr (11, [.ref (ad 0), .ref (ad 1), .ref (ad 2), .ref (ad 3), .ref (ad 4), .ref (ad 5), .ref (ad 6), .ref (ad 7), .ref (ad 8), .int 0, .int 0, .int 0, .int 0])), (hm_, .inr (12, [.int 0, .int 0, .ref (am 2), .ref (am 3), .ref (am 4), .int 0, .ref (am 6), .ref (am 7), .ref (am 8), .int 0, .ref (am 10), .ref (am 11), .ref (am 12), .ref (am 13), .ref (am 14), .ref (am 15), .int 0, .ref (am 17), .ref (am 18), .ref (am 19), .ref (am 20), .int 0, .ref (am 22), .int 0, .ref (am 24), .ref (am 25), .ref (am 26), .ref (am 27), .ref (am 28), .ref (am 29), .int 0, .ref (am 31), .ref (am 32), .ref (am 33), .int 0, .ref (am 35), .int 0, .ref (am 37), .ref (am 38), .ref (am 39), .ref (am 40), .ref (am 41), .ref (am 42), .ref (am 43), .int 0, .ref (am 45), .ref (am 46), .ref (am 47), .int 0, .ref (am 49), .int 0, .ref (am 51), .int 0, .ref (am 53), .ref (am 54), .int 1, .int 0, .ref (am 57), .long 0, .ref (am 59), .ref (am 60), .long 0, .int 0, .int 0, .int 0, .int 0, .int 0, .int 0, .ref (am 68), .int 0, .int 0, .ref (am 71), .ref (am 72), .ref (am 73), .ref (am 74), .ref (am 75), .ref (am 76), .ref (am 77), .ref (am 78)]))]) (hS : va_S (fun q : Nat => s.heap.size ≤ q) s.heap H locs) (ls : Array Slot) (hl : lv_has ls 4 [(3, .int 0), (2, .ref hm_), (1, .ref hc_), (0, .ref b)]) : W p l e room_1 s m #[Value.ref b] below meth c H locs 124 5628 (lw_Z below #[Value.ref b] s) (F0 m 1112 ls []) := by
  obtain ⟨hx, hb, hr, hml, hown, hts, hX, hbl, hlocks, hgv⟩ := id C0
  have hown : s.vm.findClass RL = some m.cls := hown
  have hb : c.code = cL_law := hb
  generalize hAe : (fun q : Nat => s.heap.size ≤ q) = A at hD hS 
  have hA : ∀ q : Nat, s.heap.size ≤ q → A q := fun q h => by rw [← hAe]; exact h
  have hbA : ¬ A b := by rw [← hAe]; exact Nat.not_le.mpr hbl
  refine lv_aload_n hx hb dL_law_1112 rfl (lv_at hl 2 rfl) ?_
  refine lv_aload_n hx hb dL_law_1113 rfl (lv_at hl 3 rfl) ?_
  refine lv_iload_n hx hb dL_law_1114 rfl (lv_at hl 0 rfl) ?_
  refine lv_iconst (v := 1) hx hb dL_law_1115 (by decide) ?_
  refine lv_iadd hx hb dL_law_1116 ?_
  refine lv_topi (fun y_1 ey_1 => ?_)
  obtain rfl : y_1 = 1 := ey_1.trans (by decide)
  refine va_sld hx hb hX hbl hbA hS (by rw [hL6]; unfold vp_in; decide) dL_law_1117 ?_
  refine lv_aload_n hx hb dL_law_1118 rfl (lv_at hl 3 rfl) ?_
  refine lv_iload_n hx hb dL_law_1119 rfl (lv_at hl 0 rfl) ?_
  refine lv_iconst (v := 2) hx hb dL_law_1120 (by decide) ?_
  refine lv_iadd hx hb dL_law_1121 ?_
  refine lv_topi (fun y_2 ey_2 => ?_)
  obtain rfl : y_2 = 2 := ey_2.trans (by decide)
  refine va_sld hx hb hX hbl hbA hS (by rw [hL6]; unfold vp_in; decide) dL_law_1122 ?_
  refine lv_aload_n hx hb dL_law_1123 rfl (lv_at hl 3 rfl) ?_
  refine lv_iload_n hx hb dL_law_1124 rfl (lv_at hl 0 rfl) ?_
  refine lv_iconst (v := 3) hx hb dL_law_1125 (by decide) ?_
  refine lv_iadd hx hb dL_law_1126 ?_
  refine lv_topi (fun y_3 ey_3 => ?_)
  obtain rfl : y_3 = 3 := ey_3.trans (by decide)
  refine va_sld hx hb hX hbl hbA hS (by rw [hL6]; unfold vp_in; decide) dL_law_1127 ?_
  have hPc := hP.sub (ws' := [(hc_, .inr (11, [.ref (ad 0), .ref (ad 1), .ref (ad 2), .ref (ad 3), .ref (ad 4), .ref (ad 5), .ref (ad 6), .ref (ad 7), .ref (ad 8), .int 0, .int 0, .int 0, .int 0]))]) [0] rfl
  have hKc := hK.sub (tys' := []) [] rfl
  refine vp_callSi (va_Run.run (va_runV (As := [.int (xs (1 : Int32).toNatClampNeg), .int (xs (2 : Int32).toNatClampNeg), .int (xs (3 : Int32).toNatClampNeg)]) (rest := []) ⟨hx, hb, hml, hown, hts⟩ (rt_X11_last l dC dI hc_ ad (xs (1 : Int32).toNatClampNeg) (xs (2 : Int32).toNatClampNeg) (xs (3 : Int32).toNatClampNeg)) (cwV 3 hts gL_law_X11_last rfl rfl rfl (by decide +kernel) ⟨Nat.le_of_ble_eq_true rfl, Nat.le_of_ble_eq_true rfl⟩) ⟨fun a U g mk q => by obtain ⟨q0, qP, qK⟩ := q; exact ⟨q0, qP, va_K.moved (u := U) (U := U.calling g mk a) (Vm.Alike.refl U.vm) qK⟩, va_recv hKc hPc (ci := 11) (q0 := 0) rfl rfl, fun U hU hW => ⟨rfl, by rw [hU]; exact hPc, va_K.moved hW.alike hKc⟩⟩ rfl rfl hl.1 rfl (lv_room (Nat.le_of_ble_eq_true rfl)) dL_law_1128 ⟨by decide +kernel, by decide +kernel⟩)) (fun r_4 hr_4 => ?_)
  obtain rfl := hr_4
  refine lv_aload_n hx hb dL_law_1131 rfl (lv_at hl 1 rfl) ?_
  refine lv_aload_n hx hb dL_law_1132 rfl (lv_at hl 3 rfl) ?_
  refine lv_iload_n hx hb dL_law_1133 rfl (lv_at hl 0 rfl) ?_
  refine lv_iconst (v := 1) hx hb dL_law_1134 (by decide) ?_
  refine lv_iadd hx hb dL_law_1135 ?_
  refine lv_topi (fun y_5 ey_5 => ?_)
  obtain rfl : y_5 = 1 := ey_5.trans (by decide)
  refine va_sld hx hb hX hbl hbA hS (by rw [hL6]; unfold vp_in; decide) dL_law_1136 ?_
  refine lv_aload_n hx hb dL_law_1137 rfl (lv_at hl 3 rfl) ?_
  refine lv_iload_n hx hb dL_law_1138 rfl (lv_at hl 0 rfl) ?_
  refine lv_iconst (v := 2) hx hb dL_law_1139 (by decide) ?_
  refine lv_iadd hx hb dL_law_1140 ?_
  refine lv_topi (fun y_6 ey_6 => ?_)
  obtain rfl : y_6 = 2 := ey_6.trans (by decide)
  refine va_sld hx hb hX hbl hbA hS (by rw [hL6]; unfold vp_in; decide) dL_law_1141 ?_
  refine lv_aload_n hx hb dL_law_1142 rfl (lv_at hl 3 rfl) ?_
  refine lv_iload_n hx hb dL_law_1143 rfl (lv_at hl 0 rfl) ?_
  refine lv_iconst (v := 3) hx hb dL_law_1144 (by decide) ?_
  refine lv_iadd hx hb dL_law_1145 ?_
  refine lv_topi (fun y_7 ey_7 => ?_)
  obtain rfl : y_7 = 3 := ey_7.trans (by decide)
  refine va_sld hx hb hX hbl hbA hS (by rw [hL6]; unfold vp_in; decide) dL_law_1146 ?_
  have hPc := hP.sub (ws' := [(hm_, .inr (12, [.int 0, .int 0, .ref (am 2), .ref (am 3), .ref (am 4), .int 0, .ref (am 6), .ref (am 7), .ref (am 8), .int 0, .ref (am 10), .ref (am 11), .ref (am 12), .ref (am 13), .ref (am 14), .ref (am 15), .int 0, .ref (am 17), .ref (am 18), .ref (am 19), .ref (am 20), .int 0, .ref (am 22), .int 0, .ref (am 24), .ref (am 25), .ref (am 26), .ref (am 27), .ref (am 28), .ref (am 29), .int 0, .ref (am 31), .ref (am 32), .ref (am 33), .int 0, .ref (am 35), .int 0, .ref (am 37), .ref (am 38), .ref (am 39), .ref (am 40), .ref (am 41), .ref (am 42), .ref (am 43), .int 0, .ref (am 45), .ref (am 46), .ref (am 47), .int 0, .ref (am 49), .int 0, .ref (am 51), .int 0, .ref (am 53), .ref (am 54), .int 1, .int 0, .ref (am 57), .long 0, .ref (am 59), .ref (am 60), .long 0, .int 0, .int 0, .int 0, .int 0, .int 0, .int 0, .ref (am 68), .int 0, .int 0, .ref (am 71), .ref (am 72), .ref (am 73), .ref (am 74), .ref (am 75), .ref (am 76), .ref (am 77), .ref (am 78)]))]) [1] rfl
  have hKc := hK.sub (tys' := []) [] rfl
  refine vp_callSi (va_Run.run (va_runV (As := [.int (xs (1 : Int32).toNatClampNeg), .int (xs (2 : Int32).toNatClampNeg), .int (xs (3 : Int32).toNatClampNeg)]) (rest := [.int (-2)]) ⟨hx, hb, hml, hown, hts⟩ (rt_X12_last l dC dI hm_ am (xs (1 : Int32).toNatClampNeg) (xs (2 : Int32).toNatClampNeg) (xs (3 : Int32).toNatClampNeg)) (cwV 3 hts gL_law_X12_last rfl rfl rfl (by decide +kernel) ⟨Nat.le_of_ble_eq_true rfl, Nat.le_of_ble_eq_true rfl⟩) ⟨fun a U g mk q => by obtain ⟨q0, qP, qK⟩ := q; exact ⟨q0, qP, va_K.moved (u := U) (U := U.calling g mk a) (Vm.Alike.refl U.vm) qK⟩, va_recv hKc hPc (ci := 12) (q0 := 0) rfl rfl, fun U hU hW => ⟨rfl, by rw [hU]; exact hPc, va_K.moved hW.alike hKc⟩⟩ rfl rfl hl.1 rfl (lv_room (Nat.le_of_ble_eq_true rfl)) dL_law_1147 ⟨by decide +kernel, by decide +kernel⟩)) (fun r_8 hr_8 => ?_)
  obtain rfl := hr_8
  refine lv_icmp_eq (tgt := 1837) hx hb dL_law_1150 (by decide) (fun _ => ?_) (fun c9 => absurd (by decide) c9)
  exact law_fin C0 hL6 hS (by decide +kernel) (by decide +kernel) ls (lv_sub hl [3, 2, 1, 0] rfl)
set_option maxHeartbeats 1000000 in
set_option maxRecDepth 100000 in
theorem law_b21 {p : Program} {l : Launch} {e : Env} {s : State} {m : MethodId} {below : List Frame} {meth : Method} {c : Code} {dC : Nat → ClassId} {dI : Nat → Nat → Nat} {b L : Nat} {xs : Nat → Int32} (C0 : lw_At p s m meth c b L xs) (hL6 : L = 6) {hc_ hm_ : Nat} {ad am : Nat → Nat} {H : Heap} {locs : List Loc} (hK : va_K (dC, dI) vwCl [] s) (hP : va_P (dC, dI) vwCl [(hc_, .inr (11, [.ref (ad 0), .ref (ad 1), .ref (ad 2), .ref (ad 3), .ref (ad 4), .ref (ad 5), .ref (ad 6), .ref (ad 7), .ref (ad 8), .int 0, .int 0, .int 0, .int 0])), (hm_, .inr (12, [.int 0, .int 0, .ref (am 2), .ref (am 3), .ref (am 4), .int 0, .ref (am 6), .ref (am 7), .ref (am 8), .int 0, .ref (am 10), .ref (am 11), .ref (am 12), .ref (am 13), .ref (am 14), .ref (am 15), .int 0, .ref (am 17), .ref (am 18), .ref (am 19), .ref (am 20), .int 0, .ref (am 22), .int 0, .ref (am 24), .ref (am 25), .ref (am 26), .ref (am 27), .ref (am 28), .ref (am 29), .int 0, .ref (am 31), .ref (am 32), .ref (am 33), .int 0, .ref (am 35), .int 0, .ref (am 37), .ref (am 38), .ref (am 39), .ref (am 40), .ref (am 41), .ref (am 42), .ref (am 43), .int 0, .ref (am 45), .ref (am 46), .ref (am 47), .int 0, .ref (am 49), .int 0, .ref (am 51), .int 0, .ref (am 53), .ref (am 54), .int 1, .int 0, .ref (am 57), .long 0, .ref (am 59), .ref (am 60), .long 0, .int 0, .int 0, .int 0, .int 0, .int 0, .int 0, .ref (am 68), .int 0, .int 0, .ref (am 71), .ref (am 72), .ref (am 73), .ref (am 74), .ref (am 75), .ref (am 76), .ref (am 77), .ref (am 78)]))] H) (hD : va_D (fun q : Nat => s.heap.size ≤ q) [(hc_, .inr (11, [.ref (ad 0), .ref (ad 1), .ref (ad 2), .ref (ad 3), .ref (ad 4), .ref (ad 5), .ref (ad 6), .ref (ad 7), .ref (ad 8), .int 0, .int 0, .int 0, .int 0])), (hm_, .inr (12, [.int 0, .int 0, .ref (am 2), .ref (am 3), .ref (am 4), .int 0, .ref (am 6), .ref (am 7), .ref (am 8), .int 0, .ref (am 10), .ref (am 11), .ref (am 12), .ref (am 13), .ref (am 14), .ref (am 15), .int 0, .ref (am 17), .ref (am 18), .ref (am 19), .ref (am 20), .int 0, .ref (am 22), .int 0, .ref (am 24), .ref (am 25), .ref (am 26), .ref (am 27), .ref (am 28), .ref (am 29), .int 0, .ref (am 31), .ref (am 32), .ref (am 33), .int 0, .ref (am 35), .int 0, .ref (am 37), .ref (am 38), .ref (am 39), .ref (am 40), .ref (am 41), .ref (am 42), .ref (am 43), .int 0, .ref (am 45), .ref (am 46), .ref (am 47), .int 0, .ref (am 49), .int 0, .ref (am 51), .int 0, .ref (am 53), .ref (am 54), .int 1, .int 0, .ref (am 57), .long 0, .ref (am 59), .ref (am 60), .long 0, .int 0, .int 0, .int 0, .int 0, .int 0, .int 0, .ref (am 68), .int 0, .int 0, .ref (am 71), .ref (am 72), .ref (am 73), .ref (am 74), .ref (am 75), .ref (am 76), .ref (am 77), .ref (am 78)]))]) (hS : va_S (fun q : Nat => s.heap.size ≤ q) s.heap H locs) (ls : Array Slot) (hl : lv_has ls 4 [(3, .int 0), (2, .ref hm_), (1, .ref hc_), (0, .ref b)]) : W p l e room_1 s m #[Value.ref b] below meth c H locs 124 5628 (lw_Z below #[Value.ref b] s) (F0 m 1155 ls []) := by
  obtain ⟨hx, hb, hr, hml, hown, hts, hX, hbl, hlocks, hgv⟩ := id C0
  have hown : s.vm.findClass RL = some m.cls := hown
  have hb : c.code = cL_law := hb
  generalize hAe : (fun q : Nat => s.heap.size ≤ q) = A at hD hS 
  have hA : ∀ q : Nat, s.heap.size ≤ q → A q := fun q h => by rw [← hAe]; exact h
  have hbA : ¬ A b := by rw [← hAe]; exact Nat.not_le.mpr hbl
  refine lv_aload_n hx hb dL_law_1155 rfl (lv_at hl 2 rfl) ?_
  refine lv_aload_n hx hb dL_law_1156 rfl (lv_at hl 3 rfl) ?_
  refine lv_iload_n hx hb dL_law_1157 rfl (lv_at hl 0 rfl) ?_
  refine lv_iconst (v := 1) hx hb dL_law_1158 (by decide) ?_
  refine lv_iadd hx hb dL_law_1159 ?_
  refine lv_topi (fun y_1 ey_1 => ?_)
  obtain rfl : y_1 = 1 := ey_1.trans (by decide)
  refine va_sld hx hb hX hbl hbA hS (by rw [hL6]; unfold vp_in; decide) dL_law_1160 ?_
  refine lv_aload_n hx hb dL_law_1161 rfl (lv_at hl 3 rfl) ?_
  refine lv_iload_n hx hb dL_law_1162 rfl (lv_at hl 0 rfl) ?_
  refine lv_iconst (v := 2) hx hb dL_law_1163 (by decide) ?_
  refine lv_iadd hx hb dL_law_1164 ?_
  refine lv_topi (fun y_2 ey_2 => ?_)
  obtain rfl : y_2 = 2 := ey_2.trans (by decide)
  refine va_sld hx hb hX hbl hbA hS (by rw [hL6]; unfold vp_in; decide) dL_law_1165 ?_
  refine lv_aload_n hx hb dL_law_1166 rfl (lv_at hl 3 rfl) ?_
  refine lv_iload_n hx hb dL_law_1167 rfl (lv_at hl 0 rfl) ?_
  refine lv_iconst (v := 3) hx hb dL_law_1168 (by decide) ?_
  refine lv_iadd hx hb dL_law_1169 ?_
  refine lv_topi (fun y_3 ey_3 => ?_)
  obtain rfl : y_3 = 3 := ey_3.trans (by decide)
  refine va_sld hx hb hX hbl hbA hS (by rw [hL6]; unfold vp_in; decide) dL_law_1170 ?_
  refine lv_aload_n hx hb dL_law_1171 rfl (lv_at hl 3 rfl) ?_
  refine lv_iload_n hx hb dL_law_1172 rfl (lv_at hl 0 rfl) ?_
  refine lv_iconst (v := 4) hx hb dL_law_1173 (by decide) ?_
  refine lv_iadd hx hb dL_law_1174 ?_
  refine lv_topi (fun y_4 ey_4 => ?_)
  obtain rfl : y_4 = 4 := ey_4.trans (by decide)
  refine va_sld hx hb hX hbl hbA hS (by rw [hL6]; unfold vp_in; decide) dL_law_1175 ?_
  have hPc := hP.sub (ws' := [(hc_, .inr (11, [.ref (ad 0), .ref (ad 1), .ref (ad 2), .ref (ad 3), .ref (ad 4), .ref (ad 5), .ref (ad 6), .ref (ad 7), .ref (ad 8), .int 0, .int 0, .int 0, .int 0]))]) [0] rfl
  have hKc := hK.sub (tys' := []) [] rfl
  refine vp_callSi (va_Run.run (va_runV (As := [.int (xs (1 : Int32).toNatClampNeg), .int (xs (2 : Int32).toNatClampNeg), .int (xs (3 : Int32).toNatClampNeg), .int (xs (4 : Int32).toNatClampNeg)]) (rest := []) ⟨hx, hb, hml, hown, hts⟩ (rt_X11_man l dC dI hc_ ad (xs (1 : Int32).toNatClampNeg) (xs (2 : Int32).toNatClampNeg) (xs (3 : Int32).toNatClampNeg) (xs (4 : Int32).toNatClampNeg)) (cwV 4 hts gL_law_X11_man rfl rfl rfl (by decide +kernel) ⟨Nat.le_of_ble_eq_true rfl, Nat.le_of_ble_eq_true rfl⟩) ⟨fun a U g mk q => by obtain ⟨q0, qP, qK⟩ := q; exact ⟨q0, qP, va_K.moved (u := U) (U := U.calling g mk a) (Vm.Alike.refl U.vm) qK⟩, va_recv hKc hPc (ci := 11) (q0 := 0) rfl rfl, fun U hU hW => ⟨rfl, by rw [hU]; exact hPc, va_K.moved hW.alike hKc⟩⟩ rfl rfl hl.1 rfl (lv_room (Nat.le_of_ble_eq_true rfl)) dL_law_1176 ⟨by decide +kernel, by decide +kernel⟩)) (fun r_5 hr_5 => ?_)
  obtain rfl := hr_5
  refine lv_aload_n hx hb dL_law_1179 rfl (lv_at hl 1 rfl) ?_
  refine lv_aload_n hx hb dL_law_1180 rfl (lv_at hl 3 rfl) ?_
  refine lv_iload_n hx hb dL_law_1181 rfl (lv_at hl 0 rfl) ?_
  refine lv_iconst (v := 1) hx hb dL_law_1182 (by decide) ?_
  refine lv_iadd hx hb dL_law_1183 ?_
  refine lv_topi (fun y_6 ey_6 => ?_)
  obtain rfl : y_6 = 1 := ey_6.trans (by decide)
  refine va_sld hx hb hX hbl hbA hS (by rw [hL6]; unfold vp_in; decide) dL_law_1184 ?_
  refine lv_aload_n hx hb dL_law_1185 rfl (lv_at hl 3 rfl) ?_
  refine lv_iload_n hx hb dL_law_1186 rfl (lv_at hl 0 rfl) ?_
  refine lv_iconst (v := 2) hx hb dL_law_1187 (by decide) ?_
  refine lv_iadd hx hb dL_law_1188 ?_
  refine lv_topi (fun y_7 ey_7 => ?_)
  obtain rfl : y_7 = 2 := ey_7.trans (by decide)
  refine va_sld hx hb hX hbl hbA hS (by rw [hL6]; unfold vp_in; decide) dL_law_1189 ?_
  refine lv_aload_n hx hb dL_law_1190 rfl (lv_at hl 3 rfl) ?_
  refine lv_iload_n hx hb dL_law_1191 rfl (lv_at hl 0 rfl) ?_
  refine lv_iconst (v := 3) hx hb dL_law_1192 (by decide) ?_
  refine lv_iadd hx hb dL_law_1193 ?_
  refine lv_topi (fun y_8 ey_8 => ?_)
  obtain rfl : y_8 = 3 := ey_8.trans (by decide)
  refine va_sld hx hb hX hbl hbA hS (by rw [hL6]; unfold vp_in; decide) dL_law_1194 ?_
  refine lv_aload_n hx hb dL_law_1195 rfl (lv_at hl 3 rfl) ?_
  refine lv_iload_n hx hb dL_law_1196 rfl (lv_at hl 0 rfl) ?_
  refine lv_iconst (v := 4) hx hb dL_law_1197 (by decide) ?_
  refine lv_iadd hx hb dL_law_1198 ?_
  refine lv_topi (fun y_9 ey_9 => ?_)
  obtain rfl : y_9 = 4 := ey_9.trans (by decide)
  refine va_sld hx hb hX hbl hbA hS (by rw [hL6]; unfold vp_in; decide) dL_law_1199 ?_
  have hPc := hP.sub (ws' := [(hm_, .inr (12, [.int 0, .int 0, .ref (am 2), .ref (am 3), .ref (am 4), .int 0, .ref (am 6), .ref (am 7), .ref (am 8), .int 0, .ref (am 10), .ref (am 11), .ref (am 12), .ref (am 13), .ref (am 14), .ref (am 15), .int 0, .ref (am 17), .ref (am 18), .ref (am 19), .ref (am 20), .int 0, .ref (am 22), .int 0, .ref (am 24), .ref (am 25), .ref (am 26), .ref (am 27), .ref (am 28), .ref (am 29), .int 0, .ref (am 31), .ref (am 32), .ref (am 33), .int 0, .ref (am 35), .int 0, .ref (am 37), .ref (am 38), .ref (am 39), .ref (am 40), .ref (am 41), .ref (am 42), .ref (am 43), .int 0, .ref (am 45), .ref (am 46), .ref (am 47), .int 0, .ref (am 49), .int 0, .ref (am 51), .int 0, .ref (am 53), .ref (am 54), .int 1, .int 0, .ref (am 57), .long 0, .ref (am 59), .ref (am 60), .long 0, .int 0, .int 0, .int 0, .int 0, .int 0, .int 0, .ref (am 68), .int 0, .int 0, .ref (am 71), .ref (am 72), .ref (am 73), .ref (am 74), .ref (am 75), .ref (am 76), .ref (am 77), .ref (am 78)]))]) [1] rfl
  have hKc := hK.sub (tys' := []) [] rfl
  refine vp_callSi (va_Run.run (va_runV (As := [.int (xs (1 : Int32).toNatClampNeg), .int (xs (2 : Int32).toNatClampNeg), .int (xs (3 : Int32).toNatClampNeg), .int (xs (4 : Int32).toNatClampNeg)]) (rest := [.int (-2)]) ⟨hx, hb, hml, hown, hts⟩ (rt_X12_man l dC dI hm_ am (xs (1 : Int32).toNatClampNeg) (xs (2 : Int32).toNatClampNeg) (xs (3 : Int32).toNatClampNeg) (xs (4 : Int32).toNatClampNeg)) (cwV 4 hts gL_law_X12_man rfl rfl rfl (by decide +kernel) ⟨Nat.le_of_ble_eq_true rfl, Nat.le_of_ble_eq_true rfl⟩) ⟨fun a U g mk q => by obtain ⟨q0, qP, qK⟩ := q; exact ⟨q0, qP, va_K.moved (u := U) (U := U.calling g mk a) (Vm.Alike.refl U.vm) qK⟩, va_recv hKc hPc (ci := 12) (q0 := 0) rfl rfl, fun U hU hW => ⟨rfl, by rw [hU]; exact hPc, va_K.moved hW.alike hKc⟩⟩ rfl rfl hl.1 rfl (lv_room (Nat.le_of_ble_eq_true rfl)) dL_law_1200 ⟨by decide +kernel, by decide +kernel⟩)) (fun r_10 hr_10 => ?_)
  obtain rfl := hr_10
  refine lv_icmp_eq (tgt := 1837) hx hb dL_law_1203 (by decide) (fun _ => ?_) (fun c9 => absurd (by decide) c9)
  exact law_fin C0 hL6 hS (by decide +kernel) (by decide +kernel) ls (lv_sub hl [3, 2, 1, 0] rfl)
set_option maxHeartbeats 1000000 in
set_option maxRecDepth 100000 in
theorem law_b22 {p : Program} {l : Launch} {e : Env} {s : State} {m : MethodId} {below : List Frame} {meth : Method} {c : Code} {dC : Nat → ClassId} {dI : Nat → Nat → Nat} {b L : Nat} {xs : Nat → Int32} (C0 : lw_At p s m meth c b L xs) (hL6 : L = 6) {hc_ hm_ : Nat} {ad ao am : Nat → Nat} {co cs : Nat → ClassId} {H : Heap} {locs : List Loc} (hK : va_K (dC, dI) vwCl [(co 0, .int), (cs 51, .int)] s) (hP : va_P (dC, dI) vwCl [(hc_, .inr (11, [.ref (ad 0), .ref (ad 1), .ref (ad 2), .ref (ad 3), .ref (ad 4), .ref (ad 5), .ref (ad 6), .ref (ad 7), .ref (ad 8), .int 0, .int 0, .int 0, .int 0])), (ad 5, .inr (3, [.ref (ao 0), .int 0, .ref (ao 2), .int 1, .int 0, .ref (ao 5), .ref (ao 6), .ref (ao 7)])), (ao 0, .inl (co 0, 160, .inl (fun _ => (0 : Int32)))), (hm_, .inr (12, [.int 0, .int 0, .ref (am 2), .ref (am 3), .ref (am 4), .int 0, .ref (am 6), .ref (am 7), .ref (am 8), .int 0, .ref (am 10), .ref (am 11), .ref (am 12), .ref (am 13), .ref (am 14), .ref (am 15), .int 0, .ref (am 17), .ref (am 18), .ref (am 19), .ref (am 20), .int 0, .ref (am 22), .int 0, .ref (am 24), .ref (am 25), .ref (am 26), .ref (am 27), .ref (am 28), .ref (am 29), .int 0, .ref (am 31), .ref (am 32), .ref (am 33), .int 0, .ref (am 35), .int 0, .ref (am 37), .ref (am 38), .ref (am 39), .ref (am 40), .ref (am 41), .ref (am 42), .ref (am 43), .int 0, .ref (am 45), .ref (am 46), .ref (am 47), .int 0, .ref (am 49), .int 0, .ref (am 51), .int 0, .ref (am 53), .ref (am 54), .int 1, .int 0, .ref (am 57), .long 0, .ref (am 59), .ref (am 60), .long 0, .int 0, .int 0, .int 0, .int 0, .int 0, .int 0, .ref (am 68), .int 0, .int 0, .ref (am 71), .ref (am 72), .ref (am 73), .ref (am 74), .ref (am 75), .ref (am 76), .ref (am 77), .ref (am 78)])), (am 51, .inl (cs 51, 160, .inl (fun _ => (0 : Int32))))] H) (hD : va_D (fun q : Nat => s.heap.size ≤ q) [(hc_, .inr (11, [.ref (ad 0), .ref (ad 1), .ref (ad 2), .ref (ad 3), .ref (ad 4), .ref (ad 5), .ref (ad 6), .ref (ad 7), .ref (ad 8), .int 0, .int 0, .int 0, .int 0])), (ad 5, .inr (3, [.ref (ao 0), .int 0, .ref (ao 2), .int 1, .int 0, .ref (ao 5), .ref (ao 6), .ref (ao 7)])), (ao 0, .inl (co 0, 160, .inl (fun _ => (0 : Int32)))), (hm_, .inr (12, [.int 0, .int 0, .ref (am 2), .ref (am 3), .ref (am 4), .int 0, .ref (am 6), .ref (am 7), .ref (am 8), .int 0, .ref (am 10), .ref (am 11), .ref (am 12), .ref (am 13), .ref (am 14), .ref (am 15), .int 0, .ref (am 17), .ref (am 18), .ref (am 19), .ref (am 20), .int 0, .ref (am 22), .int 0, .ref (am 24), .ref (am 25), .ref (am 26), .ref (am 27), .ref (am 28), .ref (am 29), .int 0, .ref (am 31), .ref (am 32), .ref (am 33), .int 0, .ref (am 35), .int 0, .ref (am 37), .ref (am 38), .ref (am 39), .ref (am 40), .ref (am 41), .ref (am 42), .ref (am 43), .int 0, .ref (am 45), .ref (am 46), .ref (am 47), .int 0, .ref (am 49), .int 0, .ref (am 51), .int 0, .ref (am 53), .ref (am 54), .int 1, .int 0, .ref (am 57), .long 0, .ref (am 59), .ref (am 60), .long 0, .int 0, .int 0, .int 0, .int 0, .int 0, .int 0, .ref (am 68), .int 0, .int 0, .ref (am 71), .ref (am 72), .ref (am 73), .ref (am 74), .ref (am 75), .ref (am 76), .ref (am 77), .ref (am 78)])), (am 51, .inl (cs 51, 160, .inl (fun _ => (0 : Int32))))]) (hS : va_S (fun q : Nat => s.heap.size ≤ q) s.heap H locs) (ls : Array Slot) (hl : lv_has ls 4 [(3, .int 0), (2, .ref hm_), (1, .ref hc_), (0, .ref b)]) : W p l e room_1 s m #[Value.ref b] below meth c H locs 124 5628 (lw_Z below #[Value.ref b] s) (F0 m 1208 ls []) := by
  obtain ⟨hx, hb, hr, hml, hown, hts, hX, hbl, hlocks, hgv⟩ := id C0
  have hown : s.vm.findClass RL = some m.cls := hown
  have hb : c.code = cL_law := hb
  generalize hAe : (fun q : Nat => s.heap.size ≤ q) = A at hD hS 
  have hA : ∀ q : Nat, s.heap.size ≤ q → A q := fun q h => by rw [← hAe]; exact h
  have hbA : ¬ A b := by rw [← hAe]; exact Nat.not_le.mpr hbl
  refine lv_aload_n hx hb dL_law_1208 rfl (lv_at hl 2 rfl) ?_
  refine lv_aload_n hx hb dL_law_1209 rfl (lv_at hl 3 rfl) ?_
  refine lv_iload_n hx hb dL_law_1210 rfl (lv_at hl 0 rfl) ?_
  refine lv_iconst (v := 1) hx hb dL_law_1211 (by decide) ?_
  refine lv_iadd hx hb dL_law_1212 ?_
  refine lv_topi (fun y_1 ey_1 => ?_)
  obtain rfl : y_1 = 1 := ey_1.trans (by decide)
  refine va_sld hx hb hX hbl hbA hS (by rw [hL6]; unfold vp_in; decide) dL_law_1213 ?_
  refine lv_aload_n hx hb dL_law_1214 rfl (lv_at hl 3 rfl) ?_
  refine lv_iload_n hx hb dL_law_1215 rfl (lv_at hl 0 rfl) ?_
  refine lv_iconst (v := 2) hx hb dL_law_1216 (by decide) ?_
  refine lv_iadd hx hb dL_law_1217 ?_
  refine lv_topi (fun y_2 ey_2 => ?_)
  obtain rfl : y_2 = 2 := ey_2.trans (by decide)
  refine va_sld hx hb hX hbl hbA hS (by rw [hL6]; unfold vp_in; decide) dL_law_1218 ?_
  refine lv_i2l (v := (xs (2 : Int32).toNatClampNeg).toInt64) hx hb dL_law_1219 rfl ?_
  refine lv_bipush (v := 32) hx hb dL_law_1220 (by decide) ?_
  refine lv_lshl (v := ((xs (2 : Int32).toNatClampNeg).toInt64) <<< ((32 : Int32).toInt64 &&& 63)) hx hb dL_law_1222 rfl ?_
  refine lv_aload_n hx hb dL_law_1223 rfl (lv_at hl 3 rfl) ?_
  refine lv_iload_n hx hb dL_law_1224 rfl (lv_at hl 0 rfl) ?_
  refine lv_iconst (v := 3) hx hb dL_law_1225 (by decide) ?_
  refine lv_iadd hx hb dL_law_1226 ?_
  refine lv_topi (fun y_3 ey_3 => ?_)
  obtain rfl : y_3 = 3 := ey_3.trans (by decide)
  refine va_sld hx hb hX hbl hbA hS (by rw [hL6]; unfold vp_in; decide) dL_law_1227 ?_
  refine lv_i2l (v := (xs (3 : Int32).toNatClampNeg).toInt64) hx hb dL_law_1228 rfl ?_
  refine lv_ldc2 (v := 4294967295) hx hb hown (hts (.constantLong RL 42 (4294967295)) (by decide +kernel)) dL_law_1229 ?_
  refine lv_land hx hb dL_law_1232 ?_
  refine lv_lor hx hb dL_law_1233 ?_
  have hPc := hP.sub (ws' := [(hc_, .inr (11, [.ref (ad 0), .ref (ad 1), .ref (ad 2), .ref (ad 3), .ref (ad 4), .ref (ad 5), .ref (ad 6), .ref (ad 7), .ref (ad 8), .int 0, .int 0, .int 0, .int 0])), (ad 5, .inr (3, [.ref (ao 0), .int 0, .ref (ao 2), .int 1, .int 0, .ref (ao 5), .ref (ao 6), .ref (ao 7)])), (ao 0, .inl (co 0, 160, .inl (fun _ => (0 : Int32))))]) [0, 1, 2] rfl
  have hKc := hK.sub (tys' := [(co 0, .int)]) [0] rfl
  have hDc := hD.sub (ws' := [(hc_, .inr (11, [.ref (ad 0), .ref (ad 1), .ref (ad 2), .ref (ad 3), .ref (ad 4), .ref (ad 5), .ref (ad 6), .ref (ad 7), .ref (ad 8), .int 0, .int 0, .int 0, .int 0])), (ad 5, .inr (3, [.ref (ao 0), .int 0, .ref (ao 2), .int 1, .int 0, .ref (ao 5), .ref (ao 6), .ref (ao 7)])), (ao 0, .inl (co 0, 160, .inl (fun _ => (0 : Int32))))]) [0, 1, 2] (by decide) rfl
  have hFc := va_free (wc := [(hc_, .inr (11, [.ref (ad 0), .ref (ad 1), .ref (ad 2), .ref (ad 3), .ref (ad 4), .ref (ad 5), .ref (ad 6), .ref (ad 7), .ref (ad 8), .int 0, .int 0, .int 0, .int 0])), (ad 5, .inr (3, [.ref (ao 0), .int 0, .ref (ao 2), .int 1, .int 0, .ref (ao 5), .ref (ao 6), .ref (ao 7)])), (ao 0, .inl (co 0, 160, .inl (fun _ => (0 : Int32))))]) hD hS hA [0, 1, 2] rfl
  refine va_calli (va_runV (As := [.int (xs (1 : Int32).toNatClampNeg), .long ((((xs (2 : Int32).toNatClampNeg).toInt64) <<< ((32 : Int32).toInt64 &&& 63)) ||| (((xs (3 : Int32).toNatClampNeg).toInt64) &&& 4294967295))]) (rest := []) ⟨hx, hb, hml, hown, hts⟩ (rt_X11_feed l dC dI H.size hc_ ad ao (co 0) (fun _ => (0 : Int32)) (xs (1 : Int32).toNatClampNeg) ((((xs (2 : Int32).toNatClampNeg).toInt64) <<< ((32 : Int32).toInt64 &&& 63)) ||| (((xs (3 : Int32).toNatClampNeg).toInt64) &&& 4294967295))) (cwV 2 hts gL_law_X11_feed rfl rfl rfl (by decide +kernel) ⟨Nat.le_of_ble_eq_true rfl, Nat.le_of_ble_eq_true rfl⟩) ⟨fun a U g mk q => by obtain ⟨q0, q1, qP, qK, qD⟩ := q; exact ⟨q0, q1, qP, va_K.moved (u := U) (U := U.calling g mk a) (Vm.Alike.refl U.vm) qK, qD⟩, va_recv hKc hPc (ci := 11) (q0 := 0) rfl rfl, fun U hU hW => ⟨rfl, by rw [hU], by rw [hU]; exact hPc, va_K.moved hW.alike hKc, hDc.weaken (fun _ _ _ _ => trivial)⟩⟩ rfl rfl hl.1 rfl (lv_room (Nat.le_of_ble_eq_true rfl)) dL_law_1234 ⟨by decide +kernel, by decide +kernel⟩) hS (fun q _ h => hFc q h) hFc (fun r_4 u t H1 locs ht hvm hr_4 hB hz1 hk1 hS => ?_)
  obtain ⟨⟩ := u
  have hP1 : va_P (dC, dI) vwCl [] H1 := fun k q h => by simp at h
  have hD1 : va_D (va_A [(hc_, .inr (11, [.ref (ad 0), .ref (ad 1), .ref (ad 2), .ref (ad 3), .ref (ad 4), .ref (ad 5), .ref (ad 6), .ref (ad 7), .ref (ad 8), .int 0, .int 0, .int 0, .int 0])), (ad 5, .inr (3, [.ref (ao 0), .int 0, .ref (ao 2), .int 1, .int 0, .ref (ao 5), .ref (ao 6), .ref (ao 7)])), (ao 0, .inl (co 0, 160, .inl (fun _ => (0 : Int32))))] H.size) [] := ⟨fun i j p q h => by simp at h, fun k q h => by simp at h⟩
  obtain ⟨hP, hD⟩ := va_join (wr := [(hm_, .inr (12, [.int 0, .int 0, .ref (am 2), .ref (am 3), .ref (am 4), .int 0, .ref (am 6), .ref (am 7), .ref (am 8), .int 0, .ref (am 10), .ref (am 11), .ref (am 12), .ref (am 13), .ref (am 14), .ref (am 15), .int 0, .ref (am 17), .ref (am 18), .ref (am 19), .ref (am 20), .int 0, .ref (am 22), .int 0, .ref (am 24), .ref (am 25), .ref (am 26), .ref (am 27), .ref (am 28), .ref (am 29), .int 0, .ref (am 31), .ref (am 32), .ref (am 33), .int 0, .ref (am 35), .int 0, .ref (am 37), .ref (am 38), .ref (am 39), .ref (am 40), .ref (am 41), .ref (am 42), .ref (am 43), .int 0, .ref (am 45), .ref (am 46), .ref (am 47), .int 0, .ref (am 49), .int 0, .ref (am 51), .int 0, .ref (am 53), .ref (am 54), .int 1, .int 0, .ref (am 57), .long 0, .ref (am 59), .ref (am 60), .long 0, .int 0, .int 0, .int 0, .int 0, .int 0, .int 0, .ref (am 68), .int 0, .int 0, .ref (am 71), .ref (am 72), .ref (am 73), .ref (am 74), .ref (am 75), .ref (am 76), .ref (am 77), .ref (am 78)])), (am 51, .inl (cs 51, 160, .inl (fun _ => (0 : Int32))))]) (w1 := []) hP hD [0, 1, 2] [3, 4] rfl rfl (by decide) (by decide) hk1 hFc hP1 hD1
  generalize H1 = H at hP hS ⊢
  have hP : va_P (dC, dI) vwCl [(hm_, .inr (12, [.int 0, .int 0, .ref (am 2), .ref (am 3), .ref (am 4), .int 0, .ref (am 6), .ref (am 7), .ref (am 8), .int 0, .ref (am 10), .ref (am 11), .ref (am 12), .ref (am 13), .ref (am 14), .ref (am 15), .int 0, .ref (am 17), .ref (am 18), .ref (am 19), .ref (am 20), .int 0, .ref (am 22), .int 0, .ref (am 24), .ref (am 25), .ref (am 26), .ref (am 27), .ref (am 28), .ref (am 29), .int 0, .ref (am 31), .ref (am 32), .ref (am 33), .int 0, .ref (am 35), .int 0, .ref (am 37), .ref (am 38), .ref (am 39), .ref (am 40), .ref (am 41), .ref (am 42), .ref (am 43), .int 0, .ref (am 45), .ref (am 46), .ref (am 47), .int 0, .ref (am 49), .int 0, .ref (am 51), .int 0, .ref (am 53), .ref (am 54), .int 1, .int 0, .ref (am 57), .long 0, .ref (am 59), .ref (am 60), .long 0, .int 0, .int 0, .int 0, .int 0, .int 0, .int 0, .ref (am 68), .int 0, .int 0, .ref (am 71), .ref (am 72), .ref (am 73), .ref (am 74), .ref (am 75), .ref (am 76), .ref (am 77), .ref (am 78)])), (am 51, .inl (cs 51, 160, .inl (fun _ => (0 : Int32))))] H := hP
  have hD : va_D A [(hm_, .inr (12, [.int 0, .int 0, .ref (am 2), .ref (am 3), .ref (am 4), .int 0, .ref (am 6), .ref (am 7), .ref (am 8), .int 0, .ref (am 10), .ref (am 11), .ref (am 12), .ref (am 13), .ref (am 14), .ref (am 15), .int 0, .ref (am 17), .ref (am 18), .ref (am 19), .ref (am 20), .int 0, .ref (am 22), .int 0, .ref (am 24), .ref (am 25), .ref (am 26), .ref (am 27), .ref (am 28), .ref (am 29), .int 0, .ref (am 31), .ref (am 32), .ref (am 33), .int 0, .ref (am 35), .int 0, .ref (am 37), .ref (am 38), .ref (am 39), .ref (am 40), .ref (am 41), .ref (am 42), .ref (am 43), .int 0, .ref (am 45), .ref (am 46), .ref (am 47), .int 0, .ref (am 49), .int 0, .ref (am 51), .int 0, .ref (am 53), .ref (am 54), .int 1, .int 0, .ref (am 57), .long 0, .ref (am 59), .ref (am 60), .long 0, .int 0, .int 0, .int 0, .int 0, .int 0, .int 0, .ref (am 68), .int 0, .int 0, .ref (am 71), .ref (am 72), .ref (am 73), .ref (am 74), .ref (am 75), .ref (am 76), .ref (am 77), .ref (am 78)])), (am 51, .inl (cs 51, 160, .inl (fun _ => (0 : Int32))))] := hD
  try dsimp only at hr_4
  refine lv_aload_n hx hb dL_law_1237 rfl (lv_at hl 1 rfl) ?_
  refine lv_aload_n hx hb dL_law_1238 rfl (lv_at hl 3 rfl) ?_
  refine lv_iload_n hx hb dL_law_1239 rfl (lv_at hl 0 rfl) ?_
  refine lv_iconst (v := 1) hx hb dL_law_1240 (by decide) ?_
  refine lv_iadd hx hb dL_law_1241 ?_
  refine lv_topi (fun y_5 ey_5 => ?_)
  obtain rfl : y_5 = 1 := ey_5.trans (by decide)
  refine va_sld hx hb hX hbl hbA hS (by rw [hL6]; unfold vp_in; decide) dL_law_1242 ?_
  refine lv_aload_n hx hb dL_law_1243 rfl (lv_at hl 3 rfl) ?_
  refine lv_iload_n hx hb dL_law_1244 rfl (lv_at hl 0 rfl) ?_
  refine lv_iconst (v := 2) hx hb dL_law_1245 (by decide) ?_
  refine lv_iadd hx hb dL_law_1246 ?_
  refine lv_topi (fun y_6 ey_6 => ?_)
  obtain rfl : y_6 = 2 := ey_6.trans (by decide)
  refine va_sld hx hb hX hbl hbA hS (by rw [hL6]; unfold vp_in; decide) dL_law_1247 ?_
  refine lv_i2l (v := (xs (2 : Int32).toNatClampNeg).toInt64) hx hb dL_law_1248 rfl ?_
  refine lv_bipush (v := 32) hx hb dL_law_1249 (by decide) ?_
  refine lv_lshl (v := ((xs (2 : Int32).toNatClampNeg).toInt64) <<< ((32 : Int32).toInt64 &&& 63)) hx hb dL_law_1251 rfl ?_
  refine lv_aload_n hx hb dL_law_1252 rfl (lv_at hl 3 rfl) ?_
  refine lv_iload_n hx hb dL_law_1253 rfl (lv_at hl 0 rfl) ?_
  refine lv_iconst (v := 3) hx hb dL_law_1254 (by decide) ?_
  refine lv_iadd hx hb dL_law_1255 ?_
  refine lv_topi (fun y_7 ey_7 => ?_)
  obtain rfl : y_7 = 3 := ey_7.trans (by decide)
  refine va_sld hx hb hX hbl hbA hS (by rw [hL6]; unfold vp_in; decide) dL_law_1256 ?_
  refine lv_i2l (v := (xs (3 : Int32).toNatClampNeg).toInt64) hx hb dL_law_1257 rfl ?_
  refine lv_ldc2 (v := 4294967295) hx hb hown (hts (.constantLong RL 42 (4294967295)) (by decide +kernel)) dL_law_1258 ?_
  refine lv_land hx hb dL_law_1261 ?_
  refine lv_lor hx hb dL_law_1262 ?_
  have hPc := hP.sub (ws' := [(hm_, .inr (12, [.int 0, .int 0, .ref (am 2), .ref (am 3), .ref (am 4), .int 0, .ref (am 6), .ref (am 7), .ref (am 8), .int 0, .ref (am 10), .ref (am 11), .ref (am 12), .ref (am 13), .ref (am 14), .ref (am 15), .int 0, .ref (am 17), .ref (am 18), .ref (am 19), .ref (am 20), .int 0, .ref (am 22), .int 0, .ref (am 24), .ref (am 25), .ref (am 26), .ref (am 27), .ref (am 28), .ref (am 29), .int 0, .ref (am 31), .ref (am 32), .ref (am 33), .int 0, .ref (am 35), .int 0, .ref (am 37), .ref (am 38), .ref (am 39), .ref (am 40), .ref (am 41), .ref (am 42), .ref (am 43), .int 0, .ref (am 45), .ref (am 46), .ref (am 47), .int 0, .ref (am 49), .int 0, .ref (am 51), .int 0, .ref (am 53), .ref (am 54), .int 1, .int 0, .ref (am 57), .long 0, .ref (am 59), .ref (am 60), .long 0, .int 0, .int 0, .int 0, .int 0, .int 0, .int 0, .ref (am 68), .int 0, .int 0, .ref (am 71), .ref (am 72), .ref (am 73), .ref (am 74), .ref (am 75), .ref (am 76), .ref (am 77), .ref (am 78)])), (am 51, .inl (cs 51, 160, .inl ((fun k => match k with  | _ => (fun _ => (0 : Int32))) 51)))]) [0, 1] rfl
  have hKc := hK.sub (tys' := [(cs 51, .int)]) [1] rfl
  have hDc := hD.sub (ws' := [(hm_, .inr (12, [.int 0, .int 0, .ref (am 2), .ref (am 3), .ref (am 4), .int 0, .ref (am 6), .ref (am 7), .ref (am 8), .int 0, .ref (am 10), .ref (am 11), .ref (am 12), .ref (am 13), .ref (am 14), .ref (am 15), .int 0, .ref (am 17), .ref (am 18), .ref (am 19), .ref (am 20), .int 0, .ref (am 22), .int 0, .ref (am 24), .ref (am 25), .ref (am 26), .ref (am 27), .ref (am 28), .ref (am 29), .int 0, .ref (am 31), .ref (am 32), .ref (am 33), .int 0, .ref (am 35), .int 0, .ref (am 37), .ref (am 38), .ref (am 39), .ref (am 40), .ref (am 41), .ref (am 42), .ref (am 43), .int 0, .ref (am 45), .ref (am 46), .ref (am 47), .int 0, .ref (am 49), .int 0, .ref (am 51), .int 0, .ref (am 53), .ref (am 54), .int 1, .int 0, .ref (am 57), .long 0, .ref (am 59), .ref (am 60), .long 0, .int 0, .int 0, .int 0, .int 0, .int 0, .int 0, .ref (am 68), .int 0, .int 0, .ref (am 71), .ref (am 72), .ref (am 73), .ref (am 74), .ref (am 75), .ref (am 76), .ref (am 77), .ref (am 78)])), (am 51, .inl (cs 51, 160, .inl ((fun k => match k with  | _ => (fun _ => (0 : Int32))) 51)))]) [0, 1] (by decide) rfl
  have hFc := va_free (wc := [(hm_, .inr (12, [.int 0, .int 0, .ref (am 2), .ref (am 3), .ref (am 4), .int 0, .ref (am 6), .ref (am 7), .ref (am 8), .int 0, .ref (am 10), .ref (am 11), .ref (am 12), .ref (am 13), .ref (am 14), .ref (am 15), .int 0, .ref (am 17), .ref (am 18), .ref (am 19), .ref (am 20), .int 0, .ref (am 22), .int 0, .ref (am 24), .ref (am 25), .ref (am 26), .ref (am 27), .ref (am 28), .ref (am 29), .int 0, .ref (am 31), .ref (am 32), .ref (am 33), .int 0, .ref (am 35), .int 0, .ref (am 37), .ref (am 38), .ref (am 39), .ref (am 40), .ref (am 41), .ref (am 42), .ref (am 43), .int 0, .ref (am 45), .ref (am 46), .ref (am 47), .int 0, .ref (am 49), .int 0, .ref (am 51), .int 0, .ref (am 53), .ref (am 54), .int 1, .int 0, .ref (am 57), .long 0, .ref (am 59), .ref (am 60), .long 0, .int 0, .int 0, .int 0, .int 0, .int 0, .int 0, .ref (am 68), .int 0, .int 0, .ref (am 71), .ref (am 72), .ref (am 73), .ref (am 74), .ref (am 75), .ref (am 76), .ref (am 77), .ref (am 78)])), (am 51, .inl (cs 51, 160, .inl ((fun k => match k with  | _ => (fun _ => (0 : Int32))) 51)))]) hD hS hA [0, 1] rfl
  refine va_calli (va_runV (As := [.int (xs (1 : Int32).toNatClampNeg), .long ((((xs (2 : Int32).toNatClampNeg).toInt64) <<< ((32 : Int32).toInt64 &&& 63)) ||| (((xs (3 : Int32).toNatClampNeg).toInt64) &&& 4294967295))]) (rest := [.int r_4]) ⟨hx, hb, hml, hown, hts⟩ (rt_X12_feed l dC dI H.size hm_ am cs (fun k => match k with  | _ => (fun _ => (0 : Int32))) (xs (1 : Int32).toNatClampNeg) ((((xs (2 : Int32).toNatClampNeg).toInt64) <<< ((32 : Int32).toInt64 &&& 63)) ||| (((xs (3 : Int32).toNatClampNeg).toInt64) &&& 4294967295))) (cwV 2 hts gL_law_X12_feed rfl rfl rfl (by decide +kernel) ⟨Nat.le_of_ble_eq_true rfl, Nat.le_of_ble_eq_true rfl⟩) ⟨fun a U g mk q => by obtain ⟨q0, q1, qP, qK, qD⟩ := q; exact ⟨q0, q1, qP, va_K.moved (u := U) (U := U.calling g mk a) (Vm.Alike.refl U.vm) qK, qD⟩, va_recv hKc hPc (ci := 12) (q0 := 0) rfl rfl, fun U hU hW => ⟨rfl, by rw [hU], by rw [hU]; exact hPc, va_K.moved hW.alike hKc, hDc.weaken (fun _ _ _ _ => trivial)⟩⟩ rfl rfl hl.1 rfl (lv_room (Nat.le_of_ble_eq_true rfl)) dL_law_1263 ⟨by decide +kernel, by decide +kernel⟩) hS (fun q _ h => hFc q h) hFc (fun r_8 u t H1 locs ht hvm hr_8 hB hz1 hk1 hS => ?_)
  obtain ⟨⟩ := u
  have hP1 : va_P (dC, dI) vwCl [] H1 := fun k q h => by simp at h
  have hD1 : va_D (va_A [(hm_, .inr (12, [.int 0, .int 0, .ref (am 2), .ref (am 3), .ref (am 4), .int 0, .ref (am 6), .ref (am 7), .ref (am 8), .int 0, .ref (am 10), .ref (am 11), .ref (am 12), .ref (am 13), .ref (am 14), .ref (am 15), .int 0, .ref (am 17), .ref (am 18), .ref (am 19), .ref (am 20), .int 0, .ref (am 22), .int 0, .ref (am 24), .ref (am 25), .ref (am 26), .ref (am 27), .ref (am 28), .ref (am 29), .int 0, .ref (am 31), .ref (am 32), .ref (am 33), .int 0, .ref (am 35), .int 0, .ref (am 37), .ref (am 38), .ref (am 39), .ref (am 40), .ref (am 41), .ref (am 42), .ref (am 43), .int 0, .ref (am 45), .ref (am 46), .ref (am 47), .int 0, .ref (am 49), .int 0, .ref (am 51), .int 0, .ref (am 53), .ref (am 54), .int 1, .int 0, .ref (am 57), .long 0, .ref (am 59), .ref (am 60), .long 0, .int 0, .int 0, .int 0, .int 0, .int 0, .int 0, .ref (am 68), .int 0, .int 0, .ref (am 71), .ref (am 72), .ref (am 73), .ref (am 74), .ref (am 75), .ref (am 76), .ref (am 77), .ref (am 78)])), (am 51, .inl (cs 51, 160, .inl ((fun k => match k with  | _ => (fun _ => (0 : Int32))) 51)))] H.size) [] := ⟨fun i j p q h => by simp at h, fun k q h => by simp at h⟩
  obtain ⟨hP, hD⟩ := va_join (wr := []) (w1 := []) hP hD [0, 1] [] rfl rfl (by decide) (by decide) hk1 hFc hP1 hD1
  generalize H1 = H at hP hS ⊢
  have hP : va_P (dC, dI) vwCl [] H := hP
  have hD : va_D A [] := hD
  try dsimp only at hr_8
  have hq : (r_4 : Int32) = r_8 := by
    rcases hr_4 with ⟨a0, e0⟩ | ⟨a0, e0⟩ <;> rcases hr_8 with ⟨a1, e1⟩ | ⟨a1, e1⟩ <;> first | (rw [e0, e1]; done) | (exfalso; (try simp only [fa_lt, fa_le, fa_eq, fa_lt64, fa_le64, fa_eq64, Int32.reduceToInt, Int64.reduceToInt, zi_ite] at a0); (try simp only [fa_lt, fa_le, fa_eq, fa_lt64, fa_le64, fa_eq64, Int32.reduceToInt, Int64.reduceToInt, zi_ite] at a1); omega)
  refine lv_icmp_eq (tgt := 1837) hx hb dL_law_1266 (by decide) (fun _ => ?_) (fun c9 => absurd hq c9)
  exact law_fin C0 hL6 hS (by decide +kernel) (by decide +kernel) ls (lv_sub hl [3, 2, 1, 0] rfl)
set_option maxHeartbeats 1000000 in
set_option maxRecDepth 100000 in
theorem law_b23 {p : Program} {l : Launch} {e : Env} {s : State} {m : MethodId} {below : List Frame} {meth : Method} {c : Code} {dC : Nat → ClassId} {dI : Nat → Nat → Nat} {b L : Nat} {xs : Nat → Int32} (C0 : lw_At p s m meth c b L xs) (hL6 : L = 6) {hc_ hm_ : Nat} {ad ao ax ay am : Nat → Nat} {co cx : Nat → ClassId} {q v : Nat} {f : Nat → Int32} {q2 : Nat} {q3 : Nat} (hQ : rt_Str q v 4 f (fun q : Nat => s.heap.size ≤ q) s s.heap) (hR1 : vk_R RX12 417 "take" q s) (hR2 : vk_R RX12 421 ";" q2 s) (hR3 : vk_R RX12 423 "go" q3 s) {H : Heap} {locs : List Loc} (hK : va_K (dC, dI) vwCl [(co 0, .int), (cx 2, .int), (cx 3, .int)] s) (hP : va_P (dC, dI) vwCl [(hc_, .inr (11, [.ref (ad 0), .ref (ad 1), .ref (ad 2), .ref (ad 3), .ref (ad 4), .ref (ad 5), .ref (ad 6), .ref (ad 7), .ref (ad 8), .int 0, .int 0, .int 0, .int 0])), (ad 5, .inr (3, [.ref (ao 0), .int 0, .ref (ao 2), .int 1, .int 0, .ref (ao 5), .ref (ao 6), .ref (ao 7)])), (ao 0, .inl (co 0, 160, .inl (fun _ => (0 : Int32)))), (ao 5, .inr (5, [.ref (ax 0), .int 0, .ref (ax 2), .ref (ax 3), .ref (ax 4), .ref (ax 5), .int 0, .int 0])), (ax 2, .inl (cx 2, 161, .inl (fun _ => (0 : Int32)))), (ax 3, .inl (cx 3, 161, .inl (fun _ => (0 : Int32)))), (ax 5, .inr (9, [.ref (ay 0), .int 0, .int 0])), (hm_, .inr (12, [.int 0, .int 0, .ref (am 2), .ref (am 3), .ref (am 4), .int 0, .ref (am 6), .ref (am 7), .ref (am 8), .int 0, .ref (am 10), .ref (am 11), .ref (am 12), .ref (am 13), .ref (am 14), .ref (am 15), .int 0, .ref (am 17), .ref (am 18), .ref (am 19), .ref (am 20), .int 0, .ref (am 22), .int 0, .ref (am 24), .ref (am 25), .ref (am 26), .ref (am 27), .ref (am 28), .ref (am 29), .int 0, .ref (am 31), .ref (am 32), .ref (am 33), .int 0, .ref (am 35), .int 0, .ref (am 37), .ref (am 38), .ref (am 39), .ref (am 40), .ref (am 41), .ref (am 42), .ref (am 43), .int 0, .ref (am 45), .ref (am 46), .ref (am 47), .int 0, .ref (am 49), .int 0, .ref (am 51), .int 0, .ref (am 53), .ref (am 54), .int 1, .int 0, .ref (am 57), .long 0, .ref (am 59), .ref (am 60), .long 0, .int 0, .int 0, .int 0, .int 0, .int 0, .int 0, .ref (am 68), .int 0, .int 0, .ref (am 71), .ref (am 72), .ref (am 73), .ref (am 74), .ref (am 75), .ref (am 76), .ref (am 77), .ref (am 78)]))] H) (hD : va_D (fun q : Nat => s.heap.size ≤ q) [(hc_, .inr (11, [.ref (ad 0), .ref (ad 1), .ref (ad 2), .ref (ad 3), .ref (ad 4), .ref (ad 5), .ref (ad 6), .ref (ad 7), .ref (ad 8), .int 0, .int 0, .int 0, .int 0])), (ad 5, .inr (3, [.ref (ao 0), .int 0, .ref (ao 2), .int 1, .int 0, .ref (ao 5), .ref (ao 6), .ref (ao 7)])), (ao 0, .inl (co 0, 160, .inl (fun _ => (0 : Int32)))), (ao 5, .inr (5, [.ref (ax 0), .int 0, .ref (ax 2), .ref (ax 3), .ref (ax 4), .ref (ax 5), .int 0, .int 0])), (ax 2, .inl (cx 2, 161, .inl (fun _ => (0 : Int32)))), (ax 3, .inl (cx 3, 161, .inl (fun _ => (0 : Int32)))), (ax 5, .inr (9, [.ref (ay 0), .int 0, .int 0])), (hm_, .inr (12, [.int 0, .int 0, .ref (am 2), .ref (am 3), .ref (am 4), .int 0, .ref (am 6), .ref (am 7), .ref (am 8), .int 0, .ref (am 10), .ref (am 11), .ref (am 12), .ref (am 13), .ref (am 14), .ref (am 15), .int 0, .ref (am 17), .ref (am 18), .ref (am 19), .ref (am 20), .int 0, .ref (am 22), .int 0, .ref (am 24), .ref (am 25), .ref (am 26), .ref (am 27), .ref (am 28), .ref (am 29), .int 0, .ref (am 31), .ref (am 32), .ref (am 33), .int 0, .ref (am 35), .int 0, .ref (am 37), .ref (am 38), .ref (am 39), .ref (am 40), .ref (am 41), .ref (am 42), .ref (am 43), .int 0, .ref (am 45), .ref (am 46), .ref (am 47), .int 0, .ref (am 49), .int 0, .ref (am 51), .int 0, .ref (am 53), .ref (am 54), .int 1, .int 0, .ref (am 57), .long 0, .ref (am 59), .ref (am 60), .long 0, .int 0, .int 0, .int 0, .int 0, .int 0, .int 0, .ref (am 68), .int 0, .int 0, .ref (am 71), .ref (am 72), .ref (am 73), .ref (am 74), .ref (am 75), .ref (am 76), .ref (am 77), .ref (am 78)]))]) (hS : va_S (fun q : Nat => s.heap.size ≤ q) s.heap H locs) (ls : Array Slot) (hl : lv_has ls 4 [(3, .int 0), (2, .ref hm_), (1, .ref hc_), (0, .ref b)]) : W p l e room_1 s m #[Value.ref b] below meth c H locs 124 5628 (lw_Z below #[Value.ref b] s) (F0 m 1271 ls []) := by
  obtain ⟨hx, hb, hr, hml, hown, hts, hX, hbl, hlocks, hgv⟩ := id C0
  have hown : s.vm.findClass RL = some m.cls := hown
  have hb : c.code = cL_law := hb
  generalize hAe : (fun q : Nat => s.heap.size ≤ q) = A at hD hS hQ
  have hA : ∀ q : Nat, s.heap.size ≤ q → A q := fun q h => by rw [← hAe]; exact h
  have hbA : ¬ A b := by rw [← hAe]; exact Nat.not_le.mpr hbl
  refine lv_aload_n hx hb dL_law_1271 rfl (lv_at hl 2 rfl) ?_
  have hPc := hP.sub (ws' := [(hc_, .inr (11, [.ref (ad 0), .ref (ad 1), .ref (ad 2), .ref (ad 3), .ref (ad 4), .ref (ad 5), .ref (ad 6), .ref (ad 7), .ref (ad 8), .int 0, .int 0, .int 0, .int 0])), (ad 5, .inr (3, [.ref (ao 0), .int 0, .ref (ao 2), .int 1, .int 0, .ref (ao 5), .ref (ao 6), .ref (ao 7)])), (ao 5, .inr (5, [.ref (ax 0), .int 0, .ref (ax 2), .ref (ax 3), .ref (ax 4), .ref (ax 5), .int 0, .int 0])), (ax 2, .inl (cx 2, 161, .inl (fun _ => (0 : Int32)))), (ax 3, .inl (cx 3, 161, .inl (fun _ => (0 : Int32)))), (ax 5, .inr (9, [.ref (ay 0), .int 0, .int 0])), (ao 0, .inl (co 0, 160, .inl (fun _ => (0 : Int32))))]) [0, 1, 3, 4, 5, 6, 2] rfl
  have hKc := hK.sub (tys' := [(cx 2, .int), (cx 3, .int), (co 0, .int)]) [1, 2, 0] rfl
  have hDc := hD.sub (ws' := [(hc_, .inr (11, [.ref (ad 0), .ref (ad 1), .ref (ad 2), .ref (ad 3), .ref (ad 4), .ref (ad 5), .ref (ad 6), .ref (ad 7), .ref (ad 8), .int 0, .int 0, .int 0, .int 0])), (ad 5, .inr (3, [.ref (ao 0), .int 0, .ref (ao 2), .int 1, .int 0, .ref (ao 5), .ref (ao 6), .ref (ao 7)])), (ao 5, .inr (5, [.ref (ax 0), .int 0, .ref (ax 2), .ref (ax 3), .ref (ax 4), .ref (ax 5), .int 0, .int 0])), (ax 2, .inl (cx 2, 161, .inl (fun _ => (0 : Int32)))), (ax 3, .inl (cx 3, 161, .inl (fun _ => (0 : Int32)))), (ax 5, .inr (9, [.ref (ay 0), .int 0, .int 0])), (ao 0, .inl (co 0, 160, .inl (fun _ => (0 : Int32))))]) [0, 1, 3, 4, 5, 6, 2] (by decide) rfl
  have hFc := va_free (wc := [(hc_, .inr (11, [.ref (ad 0), .ref (ad 1), .ref (ad 2), .ref (ad 3), .ref (ad 4), .ref (ad 5), .ref (ad 6), .ref (ad 7), .ref (ad 8), .int 0, .int 0, .int 0, .int 0])), (ad 5, .inr (3, [.ref (ao 0), .int 0, .ref (ao 2), .int 1, .int 0, .ref (ao 5), .ref (ao 6), .ref (ao 7)])), (ao 5, .inr (5, [.ref (ax 0), .int 0, .ref (ax 2), .ref (ax 3), .ref (ax 4), .ref (ax 5), .int 0, .int 0])), (ax 2, .inl (cx 2, 161, .inl (fun _ => (0 : Int32)))), (ax 3, .inl (cx 3, 161, .inl (fun _ => (0 : Int32)))), (ax 5, .inr (9, [.ref (ay 0), .int 0, .int 0])), (ao 0, .inl (co 0, 160, .inl (fun _ => (0 : Int32))))]) hD hS hA [0, 1, 3, 4, 5, 6, 2] rfl
  refine va_calli (va_runV (As := []) (rest := []) ⟨hx, hb, hml, hown, hts⟩ (rt_X11_text l dC dI H.size hc_ ad (ax 0) ao ax ay (cx 2) (cx 3) (co 0) (fun _ => (0 : Int32)) (fun _ => (0 : Int32)) (fun _ => (0 : Int32))) (cwV 0 hts gL_law_X11_text rfl rfl rfl (by decide +kernel) ⟨Nat.le_of_ble_eq_true rfl, Nat.le_of_ble_eq_true rfl⟩) ⟨fun a U g mk q => by obtain ⟨q0, q1, qP, qK, qD⟩ := q; exact ⟨q0, q1, qP, va_K.moved (u := U) (U := U.calling g mk a) (Vm.Alike.refl U.vm) qK, qD⟩, va_recv hKc hPc (ci := 11) (q0 := 0) rfl rfl, fun U hU hW => ⟨rfl, by rw [hU], by rw [hU]; exact hPc, va_K.moved hW.alike hKc, hDc.weaken (fun _ _ _ _ => trivial)⟩⟩ rfl rfl hl.1 rfl (lv_room (Nat.le_of_ble_eq_true rfl)) dL_law_1272 ⟨by decide +kernel, by decide +kernel⟩) hS (fun q _ h => hFc q h) hFc (fun r_1 u t H1 locs ht hvm hr_1 hB hz1 hk1 hS => ?_)
  obtain ⟨⟩ := u
  have hP1 : va_P (dC, dI) vwCl [] H1 := fun k q h => by simp at h
  have hD1 : va_D (va_A [(hc_, .inr (11, [.ref (ad 0), .ref (ad 1), .ref (ad 2), .ref (ad 3), .ref (ad 4), .ref (ad 5), .ref (ad 6), .ref (ad 7), .ref (ad 8), .int 0, .int 0, .int 0, .int 0])), (ad 5, .inr (3, [.ref (ao 0), .int 0, .ref (ao 2), .int 1, .int 0, .ref (ao 5), .ref (ao 6), .ref (ao 7)])), (ao 5, .inr (5, [.ref (ax 0), .int 0, .ref (ax 2), .ref (ax 3), .ref (ax 4), .ref (ax 5), .int 0, .int 0])), (ax 2, .inl (cx 2, 161, .inl (fun _ => (0 : Int32)))), (ax 3, .inl (cx 3, 161, .inl (fun _ => (0 : Int32)))), (ax 5, .inr (9, [.ref (ay 0), .int 0, .int 0])), (ao 0, .inl (co 0, 160, .inl (fun _ => (0 : Int32))))] H.size) [] := ⟨fun i j p q h => by simp at h, fun k q h => by simp at h⟩
  obtain ⟨hP, hD⟩ := va_join (wr := [(hm_, .inr (12, [.int 0, .int 0, .ref (am 2), .ref (am 3), .ref (am 4), .int 0, .ref (am 6), .ref (am 7), .ref (am 8), .int 0, .ref (am 10), .ref (am 11), .ref (am 12), .ref (am 13), .ref (am 14), .ref (am 15), .int 0, .ref (am 17), .ref (am 18), .ref (am 19), .ref (am 20), .int 0, .ref (am 22), .int 0, .ref (am 24), .ref (am 25), .ref (am 26), .ref (am 27), .ref (am 28), .ref (am 29), .int 0, .ref (am 31), .ref (am 32), .ref (am 33), .int 0, .ref (am 35), .int 0, .ref (am 37), .ref (am 38), .ref (am 39), .ref (am 40), .ref (am 41), .ref (am 42), .ref (am 43), .int 0, .ref (am 45), .ref (am 46), .ref (am 47), .int 0, .ref (am 49), .int 0, .ref (am 51), .int 0, .ref (am 53), .ref (am 54), .int 1, .int 0, .ref (am 57), .long 0, .ref (am 59), .ref (am 60), .long 0, .int 0, .int 0, .int 0, .int 0, .int 0, .int 0, .ref (am 68), .int 0, .int 0, .ref (am 71), .ref (am 72), .ref (am 73), .ref (am 74), .ref (am 75), .ref (am 76), .ref (am 77), .ref (am 78)]))]) (w1 := []) hP hD [0, 1, 3, 4, 5, 6, 2] [7] rfl rfl (by decide) (by decide) hk1 hFc hP1 hD1
  generalize H1 = H at hP hS ⊢
  have hP : va_P (dC, dI) vwCl [(hm_, .inr (12, [.int 0, .int 0, .ref (am 2), .ref (am 3), .ref (am 4), .int 0, .ref (am 6), .ref (am 7), .ref (am 8), .int 0, .ref (am 10), .ref (am 11), .ref (am 12), .ref (am 13), .ref (am 14), .ref (am 15), .int 0, .ref (am 17), .ref (am 18), .ref (am 19), .ref (am 20), .int 0, .ref (am 22), .int 0, .ref (am 24), .ref (am 25), .ref (am 26), .ref (am 27), .ref (am 28), .ref (am 29), .int 0, .ref (am 31), .ref (am 32), .ref (am 33), .int 0, .ref (am 35), .int 0, .ref (am 37), .ref (am 38), .ref (am 39), .ref (am 40), .ref (am 41), .ref (am 42), .ref (am 43), .int 0, .ref (am 45), .ref (am 46), .ref (am 47), .int 0, .ref (am 49), .int 0, .ref (am 51), .int 0, .ref (am 53), .ref (am 54), .int 1, .int 0, .ref (am 57), .long 0, .ref (am 59), .ref (am 60), .long 0, .int 0, .int 0, .int 0, .int 0, .int 0, .int 0, .ref (am 68), .int 0, .int 0, .ref (am 71), .ref (am 72), .ref (am 73), .ref (am 74), .ref (am 75), .ref (am 76), .ref (am 77), .ref (am 78)]))] H := hP
  have hD : va_D A [(hm_, .inr (12, [.int 0, .int 0, .ref (am 2), .ref (am 3), .ref (am 4), .int 0, .ref (am 6), .ref (am 7), .ref (am 8), .int 0, .ref (am 10), .ref (am 11), .ref (am 12), .ref (am 13), .ref (am 14), .ref (am 15), .int 0, .ref (am 17), .ref (am 18), .ref (am 19), .ref (am 20), .int 0, .ref (am 22), .int 0, .ref (am 24), .ref (am 25), .ref (am 26), .ref (am 27), .ref (am 28), .ref (am 29), .int 0, .ref (am 31), .ref (am 32), .ref (am 33), .int 0, .ref (am 35), .int 0, .ref (am 37), .ref (am 38), .ref (am 39), .ref (am 40), .ref (am 41), .ref (am 42), .ref (am 43), .int 0, .ref (am 45), .ref (am 46), .ref (am 47), .int 0, .ref (am 49), .int 0, .ref (am 51), .int 0, .ref (am 53), .ref (am 54), .int 1, .int 0, .ref (am 57), .long 0, .ref (am 59), .ref (am 60), .long 0, .int 0, .int 0, .int 0, .int 0, .int 0, .int 0, .ref (am 68), .int 0, .int 0, .ref (am 71), .ref (am 72), .ref (am 73), .ref (am 74), .ref (am 75), .ref (am 76), .ref (am 77), .ref (am 78)]))] := hD
  try dsimp only at hr_1
  obtain rfl := hr_1
  refine lv_aload_n hx hb dL_law_1275 rfl (lv_at hl 1 rfl) ?_
  have hPc := hP.sub (ws' := [(hm_, .inr (12, [.int 0, .int 0, .ref (am 2), .ref (am 3), .ref (am 4), .int 0, .ref (am 6), .ref (am 7), .ref (am 8), .int 0, .ref (am 10), .ref (am 11), .ref (am 12), .ref (am 13), .ref (am 14), .ref (am 15), .int 0, .ref (am 17), .ref (am 18), .ref (am 19), .ref (am 20), .int 0, .ref (am 22), .int 0, .ref (am 24), .ref (am 25), .ref (am 26), .ref (am 27), .ref (am 28), .ref (am 29), .int 0, .ref (am 31), .ref (am 32), .ref (am 33), .int 0, .ref (am 35), .int 0, .ref (am 37), .ref (am 38), .ref (am 39), .ref (am 40), .ref (am 41), .ref (am 42), .ref (am 43), .int 0, .ref (am 45), .ref (am 46), .ref (am 47), .int 0, .ref (am 49), .int 0, .ref (am 51), .int 0, .ref (am 53), .ref (am 54), .int 1, .int 0, .ref (am 57), .long 0, .ref (am 59), .ref (am 60), .long 0, .int 0, .int 0, .int 0, .int 0, .int 0, .int 0, .ref (am 68), .int 0, .int 0, .ref (am 71), .ref (am 72), .ref (am 73), .ref (am 74), .ref (am 75), .ref (am 76), .ref (am 77), .ref (am 78)]))]) [0] rfl
  have hKc := hK.sub (tys' := []) [] rfl
  have hDc := hD.sub (ws' := [(hm_, .inr (12, [.int 0, .int 0, .ref (am 2), .ref (am 3), .ref (am 4), .int 0, .ref (am 6), .ref (am 7), .ref (am 8), .int 0, .ref (am 10), .ref (am 11), .ref (am 12), .ref (am 13), .ref (am 14), .ref (am 15), .int 0, .ref (am 17), .ref (am 18), .ref (am 19), .ref (am 20), .int 0, .ref (am 22), .int 0, .ref (am 24), .ref (am 25), .ref (am 26), .ref (am 27), .ref (am 28), .ref (am 29), .int 0, .ref (am 31), .ref (am 32), .ref (am 33), .int 0, .ref (am 35), .int 0, .ref (am 37), .ref (am 38), .ref (am 39), .ref (am 40), .ref (am 41), .ref (am 42), .ref (am 43), .int 0, .ref (am 45), .ref (am 46), .ref (am 47), .int 0, .ref (am 49), .int 0, .ref (am 51), .int 0, .ref (am 53), .ref (am 54), .int 1, .int 0, .ref (am 57), .long 0, .ref (am 59), .ref (am 60), .long 0, .int 0, .int 0, .int 0, .int 0, .int 0, .int 0, .ref (am 68), .int 0, .int 0, .ref (am 71), .ref (am 72), .ref (am 73), .ref (am 74), .ref (am 75), .ref (am 76), .ref (am 77), .ref (am 78)]))]) [0] (by decide) rfl
  have hFc := va_free (wc := [(hm_, .inr (12, [.int 0, .int 0, .ref (am 2), .ref (am 3), .ref (am 4), .int 0, .ref (am 6), .ref (am 7), .ref (am 8), .int 0, .ref (am 10), .ref (am 11), .ref (am 12), .ref (am 13), .ref (am 14), .ref (am 15), .int 0, .ref (am 17), .ref (am 18), .ref (am 19), .ref (am 20), .int 0, .ref (am 22), .int 0, .ref (am 24), .ref (am 25), .ref (am 26), .ref (am 27), .ref (am 28), .ref (am 29), .int 0, .ref (am 31), .ref (am 32), .ref (am 33), .int 0, .ref (am 35), .int 0, .ref (am 37), .ref (am 38), .ref (am 39), .ref (am 40), .ref (am 41), .ref (am 42), .ref (am 43), .int 0, .ref (am 45), .ref (am 46), .ref (am 47), .int 0, .ref (am 49), .int 0, .ref (am 51), .int 0, .ref (am 53), .ref (am 54), .int 1, .int 0, .ref (am 57), .long 0, .ref (am 59), .ref (am 60), .long 0, .int 0, .int 0, .int 0, .int 0, .int 0, .int 0, .ref (am 68), .int 0, .int 0, .ref (am 71), .ref (am 72), .ref (am 73), .ref (am 74), .ref (am 75), .ref (am 76), .ref (am 77), .ref (am 78)]))]) hD hS hA [0] rfl
  refine va_calli (va_runV (As := []) (rest := [.int (-100)]) ⟨hx, hb, hml, hown, hts⟩ (rt_X12_text l dC dI H.size hm_ am q q2 q3 v 4 f (by decide)) (cwV 0 hts gL_law_X12_text rfl rfl rfl (by decide +kernel) ⟨Nat.le_of_ble_eq_true rfl, Nat.le_of_ble_eq_true rfl⟩) ⟨fun a U g mk q => by obtain ⟨q0, q1, qP, qK, qD, qe0, qe1, qe2, qe3⟩ := q; exact ⟨q0, q1, qP, va_K.moved (u := U) (U := U.calling g mk a) (Vm.Alike.refl U.vm) qK, qD, rt_Str.same qe0, vk_R.same rfl qe1, vk_R.same rfl qe2, vk_R.same rfl qe3⟩, va_recv hKc hPc (ci := 12) (q0 := 0) rfl rfl, fun U hU hW => ⟨rfl, by rw [hU], by rw [hU]; exact hPc, va_K.moved hW.alike hKc, hDc.weaken (fun _ _ _ _ => trivial), rt_Str.give hQ hS hFc hU hW.alike, vk_R.warm hW hR1, vk_R.warm hW hR2, vk_R.warm hW hR3⟩⟩ rfl rfl hl.1 rfl (lv_room (Nat.le_of_ble_eq_true rfl)) dL_law_1276 ⟨by decide +kernel, by decide +kernel⟩) hS (fun q _ h => hFc q h) hFc (fun r_2 u t H1 locs ht hvm hr_2 hB hz1 hk1 hS => ?_)
  obtain ⟨⟩ := u
  have hP1 : va_P (dC, dI) vwCl [] H1 := fun k q h => by simp at h
  have hD1 : va_D (va_A [(hm_, .inr (12, [.int 0, .int 0, .ref (am 2), .ref (am 3), .ref (am 4), .int 0, .ref (am 6), .ref (am 7), .ref (am 8), .int 0, .ref (am 10), .ref (am 11), .ref (am 12), .ref (am 13), .ref (am 14), .ref (am 15), .int 0, .ref (am 17), .ref (am 18), .ref (am 19), .ref (am 20), .int 0, .ref (am 22), .int 0, .ref (am 24), .ref (am 25), .ref (am 26), .ref (am 27), .ref (am 28), .ref (am 29), .int 0, .ref (am 31), .ref (am 32), .ref (am 33), .int 0, .ref (am 35), .int 0, .ref (am 37), .ref (am 38), .ref (am 39), .ref (am 40), .ref (am 41), .ref (am 42), .ref (am 43), .int 0, .ref (am 45), .ref (am 46), .ref (am 47), .int 0, .ref (am 49), .int 0, .ref (am 51), .int 0, .ref (am 53), .ref (am 54), .int 1, .int 0, .ref (am 57), .long 0, .ref (am 59), .ref (am 60), .long 0, .int 0, .int 0, .int 0, .int 0, .int 0, .int 0, .ref (am 68), .int 0, .int 0, .ref (am 71), .ref (am 72), .ref (am 73), .ref (am 74), .ref (am 75), .ref (am 76), .ref (am 77), .ref (am 78)]))] H.size) [] := ⟨fun i j p q h => by simp at h, fun k q h => by simp at h⟩
  obtain ⟨hP, hD⟩ := va_join (wr := []) (w1 := []) hP hD [0] [] rfl rfl (by decide) (by decide) hk1 hFc hP1 hD1
  generalize H1 = H at hP hS ⊢
  have hP : va_P (dC, dI) vwCl [] H := hP
  have hD : va_D A [] := hD
  try dsimp only at hr_2
  obtain rfl := hr_2
  refine lv_icmp_eq (tgt := 1837) hx hb dL_law_1279 (by decide) (fun _ => ?_) (fun c9 => absurd (by decide) c9)
  exact law_fin C0 hL6 hS (by decide +kernel) (by decide +kernel) ls (lv_sub hl [3, 2, 1, 0] rfl)
set_option maxHeartbeats 1000000 in
set_option maxRecDepth 100000 in
theorem law_b24 {p : Program} {l : Launch} {e : Env} {s : State} {m : MethodId} {below : List Frame} {meth : Method} {c : Code} {dC : Nat → ClassId} {dI : Nat → Nat → Nat} {b L : Nat} {xs : Nat → Int32} (C0 : lw_At p s m meth c b L xs) (hL6 : L = 6) {hc_ hm_ : Nat} {ad ao am : Nat → Nat} {H : Heap} {locs : List Loc} (hK : va_K (dC, dI) vwCl [] s) (hP : va_P (dC, dI) vwCl [(hc_, .inr (11, [.ref (ad 0), .ref (ad 1), .ref (ad 2), .ref (ad 3), .ref (ad 4), .ref (ad 5), .ref (ad 6), .ref (ad 7), .ref (ad 8), .int 0, .int 0, .int 0, .int 0])), (ad 5, .inr (3, [.ref (ao 0), .int 0, .ref (ao 2), .int 1, .int 0, .ref (ao 5), .ref (ao 6), .ref (ao 7)])), (hm_, .inr (12, [.int 0, .int 0, .ref (am 2), .ref (am 3), .ref (am 4), .int 0, .ref (am 6), .ref (am 7), .ref (am 8), .int 0, .ref (am 10), .ref (am 11), .ref (am 12), .ref (am 13), .ref (am 14), .ref (am 15), .int 0, .ref (am 17), .ref (am 18), .ref (am 19), .ref (am 20), .int 0, .ref (am 22), .int 0, .ref (am 24), .ref (am 25), .ref (am 26), .ref (am 27), .ref (am 28), .ref (am 29), .int 0, .ref (am 31), .ref (am 32), .ref (am 33), .int 0, .ref (am 35), .int 0, .ref (am 37), .ref (am 38), .ref (am 39), .ref (am 40), .ref (am 41), .ref (am 42), .ref (am 43), .int 0, .ref (am 45), .ref (am 46), .ref (am 47), .int 0, .ref (am 49), .int 0, .ref (am 51), .int 0, .ref (am 53), .ref (am 54), .int 1, .int 0, .ref (am 57), .long 0, .ref (am 59), .ref (am 60), .long 0, .int 0, .int 0, .int 0, .int 0, .int 0, .int 0, .ref (am 68), .int 0, .int 0, .ref (am 71), .ref (am 72), .ref (am 73), .ref (am 74), .ref (am 75), .ref (am 76), .ref (am 77), .ref (am 78)]))] H) (hD : va_D (fun q : Nat => s.heap.size ≤ q) [(hc_, .inr (11, [.ref (ad 0), .ref (ad 1), .ref (ad 2), .ref (ad 3), .ref (ad 4), .ref (ad 5), .ref (ad 6), .ref (ad 7), .ref (ad 8), .int 0, .int 0, .int 0, .int 0])), (ad 5, .inr (3, [.ref (ao 0), .int 0, .ref (ao 2), .int 1, .int 0, .ref (ao 5), .ref (ao 6), .ref (ao 7)])), (hm_, .inr (12, [.int 0, .int 0, .ref (am 2), .ref (am 3), .ref (am 4), .int 0, .ref (am 6), .ref (am 7), .ref (am 8), .int 0, .ref (am 10), .ref (am 11), .ref (am 12), .ref (am 13), .ref (am 14), .ref (am 15), .int 0, .ref (am 17), .ref (am 18), .ref (am 19), .ref (am 20), .int 0, .ref (am 22), .int 0, .ref (am 24), .ref (am 25), .ref (am 26), .ref (am 27), .ref (am 28), .ref (am 29), .int 0, .ref (am 31), .ref (am 32), .ref (am 33), .int 0, .ref (am 35), .int 0, .ref (am 37), .ref (am 38), .ref (am 39), .ref (am 40), .ref (am 41), .ref (am 42), .ref (am 43), .int 0, .ref (am 45), .ref (am 46), .ref (am 47), .int 0, .ref (am 49), .int 0, .ref (am 51), .int 0, .ref (am 53), .ref (am 54), .int 1, .int 0, .ref (am 57), .long 0, .ref (am 59), .ref (am 60), .long 0, .int 0, .int 0, .int 0, .int 0, .int 0, .int 0, .ref (am 68), .int 0, .int 0, .ref (am 71), .ref (am 72), .ref (am 73), .ref (am 74), .ref (am 75), .ref (am 76), .ref (am 77), .ref (am 78)]))]) (hS : va_S (fun q : Nat => s.heap.size ≤ q) s.heap H locs) (ls : Array Slot) (hl : lv_has ls 4 [(3, .int 0), (2, .ref hm_), (1, .ref hc_), (0, .ref b)]) : W p l e room_1 s m #[Value.ref b] below meth c H locs 124 5628 (lw_Z below #[Value.ref b] s) (F0 m 1284 ls []) := by
  obtain ⟨hx, hb, hr, hml, hown, hts, hX, hbl, hlocks, hgv⟩ := id C0
  have hown : s.vm.findClass RL = some m.cls := hown
  have hb : c.code = cL_law := hb
  generalize hAe : (fun q : Nat => s.heap.size ≤ q) = A at hD hS 
  have hA : ∀ q : Nat, s.heap.size ≤ q → A q := fun q h => by rw [← hAe]; exact h
  have hbA : ¬ A b := by rw [← hAe]; exact Nat.not_le.mpr hbl
  refine lv_aload_n hx hb dL_law_1284 rfl (lv_at hl 2 rfl) ?_
  refine lv_aload_n hx hb dL_law_1285 rfl (lv_at hl 3 rfl) ?_
  refine lv_iload_n hx hb dL_law_1286 rfl (lv_at hl 0 rfl) ?_
  refine lv_iconst (v := 1) hx hb dL_law_1287 (by decide) ?_
  refine lv_iadd hx hb dL_law_1288 ?_
  refine lv_topi (fun y_1 ey_1 => ?_)
  obtain rfl : y_1 = 1 := ey_1.trans (by decide)
  refine va_sld hx hb hX hbl hbA hS (by rw [hL6]; unfold vp_in; decide) dL_law_1289 ?_
  have hPc := hP.sub (ws' := [(hc_, .inr (11, [.ref (ad 0), .ref (ad 1), .ref (ad 2), .ref (ad 3), .ref (ad 4), .ref (ad 5), .ref (ad 6), .ref (ad 7), .ref (ad 8), .int 0, .int 0, .int 0, .int 0])), (ad 5, .inr (3, [.ref (ao 0), .int 0, .ref (ao 2), .int 1, .int 0, .ref (ao 5), .ref (ao 6), .ref (ao 7)]))]) [0, 1] rfl
  have hKc := hK.sub (tys' := []) [] rfl
  have hDc := hD.sub (ws' := [(hc_, .inr (11, [.ref (ad 0), .ref (ad 1), .ref (ad 2), .ref (ad 3), .ref (ad 4), .ref (ad 5), .ref (ad 6), .ref (ad 7), .ref (ad 8), .int 0, .int 0, .int 0, .int 0])), (ad 5, .inr (3, [.ref (ao 0), .int 0, .ref (ao 2), .int 1, .int 0, .ref (ao 5), .ref (ao 6), .ref (ao 7)]))]) [0, 1] (by decide) rfl
  have hFc := va_free (wc := [(hc_, .inr (11, [.ref (ad 0), .ref (ad 1), .ref (ad 2), .ref (ad 3), .ref (ad 4), .ref (ad 5), .ref (ad 6), .ref (ad 7), .ref (ad 8), .int 0, .int 0, .int 0, .int 0])), (ad 5, .inr (3, [.ref (ao 0), .int 0, .ref (ao 2), .int 1, .int 0, .ref (ao 5), .ref (ao 6), .ref (ao 7)]))]) hD hS hA [0, 1] rfl
  refine va_calli (va_runV (As := [.int (xs (1 : Int32).toNatClampNeg)]) (rest := []) ⟨hx, hb, hml, hown, hts⟩ (rt_X11_force l dC dI H.size hc_ ad ao (xs (1 : Int32).toNatClampNeg)) (cwV 1 hts gL_law_X11_force rfl rfl rfl (by decide +kernel) ⟨Nat.le_of_ble_eq_true rfl, Nat.le_of_ble_eq_true rfl⟩) ⟨fun a U g mk q => by obtain ⟨q0, q1, qP, qK, qD⟩ := q; exact ⟨q0, q1, qP, va_K.moved (u := U) (U := U.calling g mk a) (Vm.Alike.refl U.vm) qK, qD⟩, va_recv hKc hPc (ci := 11) (q0 := 0) rfl rfl, fun U hU hW => ⟨rfl, by rw [hU], by rw [hU]; exact hPc, va_K.moved hW.alike hKc, hDc.weaken (fun _ _ _ _ => trivial)⟩⟩ rfl rfl hl.1 rfl (lv_room (Nat.le_of_ble_eq_true rfl)) dL_law_1290 ⟨by decide +kernel, by decide +kernel⟩) hS (fun q _ h => hFc q h) hFc (fun r_2 u t H1 locs ht hvm hr_2 hB hz1 hk1 hS => ?_)
  obtain ⟨⟩ := u
  have hP1 : va_P (dC, dI) vwCl [] H1 := fun k q h => by simp at h
  have hD1 : va_D (va_A [(hc_, .inr (11, [.ref (ad 0), .ref (ad 1), .ref (ad 2), .ref (ad 3), .ref (ad 4), .ref (ad 5), .ref (ad 6), .ref (ad 7), .ref (ad 8), .int 0, .int 0, .int 0, .int 0])), (ad 5, .inr (3, [.ref (ao 0), .int 0, .ref (ao 2), .int 1, .int 0, .ref (ao 5), .ref (ao 6), .ref (ao 7)]))] H.size) [] := ⟨fun i j p q h => by simp at h, fun k q h => by simp at h⟩
  obtain ⟨hP, hD⟩ := va_join (wr := [(hm_, .inr (12, [.int 0, .int 0, .ref (am 2), .ref (am 3), .ref (am 4), .int 0, .ref (am 6), .ref (am 7), .ref (am 8), .int 0, .ref (am 10), .ref (am 11), .ref (am 12), .ref (am 13), .ref (am 14), .ref (am 15), .int 0, .ref (am 17), .ref (am 18), .ref (am 19), .ref (am 20), .int 0, .ref (am 22), .int 0, .ref (am 24), .ref (am 25), .ref (am 26), .ref (am 27), .ref (am 28), .ref (am 29), .int 0, .ref (am 31), .ref (am 32), .ref (am 33), .int 0, .ref (am 35), .int 0, .ref (am 37), .ref (am 38), .ref (am 39), .ref (am 40), .ref (am 41), .ref (am 42), .ref (am 43), .int 0, .ref (am 45), .ref (am 46), .ref (am 47), .int 0, .ref (am 49), .int 0, .ref (am 51), .int 0, .ref (am 53), .ref (am 54), .int 1, .int 0, .ref (am 57), .long 0, .ref (am 59), .ref (am 60), .long 0, .int 0, .int 0, .int 0, .int 0, .int 0, .int 0, .ref (am 68), .int 0, .int 0, .ref (am 71), .ref (am 72), .ref (am 73), .ref (am 74), .ref (am 75), .ref (am 76), .ref (am 77), .ref (am 78)]))]) (w1 := []) hP hD [0, 1] [2] rfl rfl (by decide) (by decide) hk1 hFc hP1 hD1
  generalize H1 = H at hP hS ⊢
  have hP : va_P (dC, dI) vwCl [(hm_, .inr (12, [.int 0, .int 0, .ref (am 2), .ref (am 3), .ref (am 4), .int 0, .ref (am 6), .ref (am 7), .ref (am 8), .int 0, .ref (am 10), .ref (am 11), .ref (am 12), .ref (am 13), .ref (am 14), .ref (am 15), .int 0, .ref (am 17), .ref (am 18), .ref (am 19), .ref (am 20), .int 0, .ref (am 22), .int 0, .ref (am 24), .ref (am 25), .ref (am 26), .ref (am 27), .ref (am 28), .ref (am 29), .int 0, .ref (am 31), .ref (am 32), .ref (am 33), .int 0, .ref (am 35), .int 0, .ref (am 37), .ref (am 38), .ref (am 39), .ref (am 40), .ref (am 41), .ref (am 42), .ref (am 43), .int 0, .ref (am 45), .ref (am 46), .ref (am 47), .int 0, .ref (am 49), .int 0, .ref (am 51), .int 0, .ref (am 53), .ref (am 54), .int 1, .int 0, .ref (am 57), .long 0, .ref (am 59), .ref (am 60), .long 0, .int 0, .int 0, .int 0, .int 0, .int 0, .int 0, .ref (am 68), .int 0, .int 0, .ref (am 71), .ref (am 72), .ref (am 73), .ref (am 74), .ref (am 75), .ref (am 76), .ref (am 77), .ref (am 78)]))] H := hP
  have hD : va_D A [(hm_, .inr (12, [.int 0, .int 0, .ref (am 2), .ref (am 3), .ref (am 4), .int 0, .ref (am 6), .ref (am 7), .ref (am 8), .int 0, .ref (am 10), .ref (am 11), .ref (am 12), .ref (am 13), .ref (am 14), .ref (am 15), .int 0, .ref (am 17), .ref (am 18), .ref (am 19), .ref (am 20), .int 0, .ref (am 22), .int 0, .ref (am 24), .ref (am 25), .ref (am 26), .ref (am 27), .ref (am 28), .ref (am 29), .int 0, .ref (am 31), .ref (am 32), .ref (am 33), .int 0, .ref (am 35), .int 0, .ref (am 37), .ref (am 38), .ref (am 39), .ref (am 40), .ref (am 41), .ref (am 42), .ref (am 43), .int 0, .ref (am 45), .ref (am 46), .ref (am 47), .int 0, .ref (am 49), .int 0, .ref (am 51), .int 0, .ref (am 53), .ref (am 54), .int 1, .int 0, .ref (am 57), .long 0, .ref (am 59), .ref (am 60), .long 0, .int 0, .int 0, .int 0, .int 0, .int 0, .int 0, .ref (am 68), .int 0, .int 0, .ref (am 71), .ref (am 72), .ref (am 73), .ref (am 74), .ref (am 75), .ref (am 76), .ref (am 77), .ref (am 78)]))] := hD
  try dsimp only at hr_2
  refine lv_aload_n hx hb dL_law_1293 rfl (lv_at hl 1 rfl) ?_
  refine lv_aload_n hx hb dL_law_1294 rfl (lv_at hl 3 rfl) ?_
  refine lv_iload_n hx hb dL_law_1295 rfl (lv_at hl 0 rfl) ?_
  refine lv_iconst (v := 1) hx hb dL_law_1296 (by decide) ?_
  refine lv_iadd hx hb dL_law_1297 ?_
  refine lv_topi (fun y_3 ey_3 => ?_)
  obtain rfl : y_3 = 1 := ey_3.trans (by decide)
  refine va_sld hx hb hX hbl hbA hS (by rw [hL6]; unfold vp_in; decide) dL_law_1298 ?_
  have hPc := hP.sub (ws' := [(hm_, .inr (12, [.int 0, .int 0, .ref (am 2), .ref (am 3), .ref (am 4), .int 0, .ref (am 6), .ref (am 7), .ref (am 8), .int 0, .ref (am 10), .ref (am 11), .ref (am 12), .ref (am 13), .ref (am 14), .ref (am 15), .int 0, .ref (am 17), .ref (am 18), .ref (am 19), .ref (am 20), .int 0, .ref (am 22), .int 0, .ref (am 24), .ref (am 25), .ref (am 26), .ref (am 27), .ref (am 28), .ref (am 29), .int 0, .ref (am 31), .ref (am 32), .ref (am 33), .int 0, .ref (am 35), .int 0, .ref (am 37), .ref (am 38), .ref (am 39), .ref (am 40), .ref (am 41), .ref (am 42), .ref (am 43), .int 0, .ref (am 45), .ref (am 46), .ref (am 47), .int 0, .ref (am 49), .int 0, .ref (am 51), .int 0, .ref (am 53), .ref (am 54), .int 1, .int 0, .ref (am 57), .long 0, .ref (am 59), .ref (am 60), .long 0, .int 0, .int 0, .int 0, .int 0, .int 0, .int 0, .ref (am 68), .int 0, .int 0, .ref (am 71), .ref (am 72), .ref (am 73), .ref (am 74), .ref (am 75), .ref (am 76), .ref (am 77), .ref (am 78)]))]) [0] rfl
  have hKc := hK.sub (tys' := []) [] rfl
  have hDc := hD.sub (ws' := [(hm_, .inr (12, [.int 0, .int 0, .ref (am 2), .ref (am 3), .ref (am 4), .int 0, .ref (am 6), .ref (am 7), .ref (am 8), .int 0, .ref (am 10), .ref (am 11), .ref (am 12), .ref (am 13), .ref (am 14), .ref (am 15), .int 0, .ref (am 17), .ref (am 18), .ref (am 19), .ref (am 20), .int 0, .ref (am 22), .int 0, .ref (am 24), .ref (am 25), .ref (am 26), .ref (am 27), .ref (am 28), .ref (am 29), .int 0, .ref (am 31), .ref (am 32), .ref (am 33), .int 0, .ref (am 35), .int 0, .ref (am 37), .ref (am 38), .ref (am 39), .ref (am 40), .ref (am 41), .ref (am 42), .ref (am 43), .int 0, .ref (am 45), .ref (am 46), .ref (am 47), .int 0, .ref (am 49), .int 0, .ref (am 51), .int 0, .ref (am 53), .ref (am 54), .int 1, .int 0, .ref (am 57), .long 0, .ref (am 59), .ref (am 60), .long 0, .int 0, .int 0, .int 0, .int 0, .int 0, .int 0, .ref (am 68), .int 0, .int 0, .ref (am 71), .ref (am 72), .ref (am 73), .ref (am 74), .ref (am 75), .ref (am 76), .ref (am 77), .ref (am 78)]))]) [0] (by decide) rfl
  have hFc := va_free (wc := [(hm_, .inr (12, [.int 0, .int 0, .ref (am 2), .ref (am 3), .ref (am 4), .int 0, .ref (am 6), .ref (am 7), .ref (am 8), .int 0, .ref (am 10), .ref (am 11), .ref (am 12), .ref (am 13), .ref (am 14), .ref (am 15), .int 0, .ref (am 17), .ref (am 18), .ref (am 19), .ref (am 20), .int 0, .ref (am 22), .int 0, .ref (am 24), .ref (am 25), .ref (am 26), .ref (am 27), .ref (am 28), .ref (am 29), .int 0, .ref (am 31), .ref (am 32), .ref (am 33), .int 0, .ref (am 35), .int 0, .ref (am 37), .ref (am 38), .ref (am 39), .ref (am 40), .ref (am 41), .ref (am 42), .ref (am 43), .int 0, .ref (am 45), .ref (am 46), .ref (am 47), .int 0, .ref (am 49), .int 0, .ref (am 51), .int 0, .ref (am 53), .ref (am 54), .int 1, .int 0, .ref (am 57), .long 0, .ref (am 59), .ref (am 60), .long 0, .int 0, .int 0, .int 0, .int 0, .int 0, .int 0, .ref (am 68), .int 0, .int 0, .ref (am 71), .ref (am 72), .ref (am 73), .ref (am 74), .ref (am 75), .ref (am 76), .ref (am 77), .ref (am 78)]))]) hD hS hA [0] rfl
  refine va_calli (va_runV (As := [.int (xs (1 : Int32).toNatClampNeg)]) (rest := [.int r_2]) ⟨hx, hb, hml, hown, hts⟩ (rt_X12_force l dC dI H.size hm_ am (xs (1 : Int32).toNatClampNeg)) (cwV 1 hts gL_law_X12_force rfl rfl rfl (by decide +kernel) ⟨Nat.le_of_ble_eq_true rfl, Nat.le_of_ble_eq_true rfl⟩) ⟨fun a U g mk q => by obtain ⟨q0, q1, qP, qK, qD⟩ := q; exact ⟨q0, q1, qP, va_K.moved (u := U) (U := U.calling g mk a) (Vm.Alike.refl U.vm) qK, qD⟩, va_recv hKc hPc (ci := 12) (q0 := 0) rfl rfl, fun U hU hW => ⟨rfl, by rw [hU], by rw [hU]; exact hPc, va_K.moved hW.alike hKc, hDc.weaken (fun _ _ _ _ => trivial)⟩⟩ rfl rfl hl.1 rfl (lv_room (Nat.le_of_ble_eq_true rfl)) dL_law_1299 ⟨by decide +kernel, by decide +kernel⟩) hS (fun q _ h => hFc q h) hFc (fun r_4 u t H1 locs ht hvm hr_4 hB hz1 hk1 hS => ?_)
  obtain ⟨⟩ := u
  have hP1 : va_P (dC, dI) vwCl [] H1 := fun k q h => by simp at h
  have hD1 : va_D (va_A [(hm_, .inr (12, [.int 0, .int 0, .ref (am 2), .ref (am 3), .ref (am 4), .int 0, .ref (am 6), .ref (am 7), .ref (am 8), .int 0, .ref (am 10), .ref (am 11), .ref (am 12), .ref (am 13), .ref (am 14), .ref (am 15), .int 0, .ref (am 17), .ref (am 18), .ref (am 19), .ref (am 20), .int 0, .ref (am 22), .int 0, .ref (am 24), .ref (am 25), .ref (am 26), .ref (am 27), .ref (am 28), .ref (am 29), .int 0, .ref (am 31), .ref (am 32), .ref (am 33), .int 0, .ref (am 35), .int 0, .ref (am 37), .ref (am 38), .ref (am 39), .ref (am 40), .ref (am 41), .ref (am 42), .ref (am 43), .int 0, .ref (am 45), .ref (am 46), .ref (am 47), .int 0, .ref (am 49), .int 0, .ref (am 51), .int 0, .ref (am 53), .ref (am 54), .int 1, .int 0, .ref (am 57), .long 0, .ref (am 59), .ref (am 60), .long 0, .int 0, .int 0, .int 0, .int 0, .int 0, .int 0, .ref (am 68), .int 0, .int 0, .ref (am 71), .ref (am 72), .ref (am 73), .ref (am 74), .ref (am 75), .ref (am 76), .ref (am 77), .ref (am 78)]))] H.size) [] := ⟨fun i j p q h => by simp at h, fun k q h => by simp at h⟩
  obtain ⟨hP, hD⟩ := va_join (wr := []) (w1 := []) hP hD [0] [] rfl rfl (by decide) (by decide) hk1 hFc hP1 hD1
  generalize H1 = H at hP hS ⊢
  have hP : va_P (dC, dI) vwCl [] H := hP
  have hD : va_D A [] := hD
  try dsimp only at hr_4
  have hq : (r_2 : Int32) = r_4 := by
    rcases hr_2 with ⟨a0, e0⟩ | ⟨a0, e0⟩ <;> rcases hr_4 with ⟨a1, e1⟩ | ⟨a1, e1⟩ <;> first | (rw [e0, e1]; done) | (exfalso; (try simp only [fa_lt, fa_le, fa_eq, fa_lt64, fa_le64, fa_eq64, Int32.reduceToInt, Int64.reduceToInt, zi_ite] at a0); (try simp only [fa_lt, fa_le, fa_eq, fa_lt64, fa_le64, fa_eq64, Int32.reduceToInt, Int64.reduceToInt, zi_ite] at a1); omega)
  refine lv_icmp_eq (tgt := 1837) hx hb dL_law_1302 (by decide) (fun _ => ?_) (fun c9 => absurd hq c9)
  exact law_fin C0 hL6 hS (by decide +kernel) (by decide +kernel) ls (lv_sub hl [3, 2, 1, 0] rfl)
set_option maxHeartbeats 1000000 in
set_option maxRecDepth 100000 in
theorem law_b25 {p : Program} {l : Launch} {e : Env} {s : State} {m : MethodId} {below : List Frame} {meth : Method} {c : Code} {dC : Nat → ClassId} {dI : Nat → Nat → Nat} {b L : Nat} {xs : Nat → Int32} (C0 : lw_At p s m meth c b L xs) (hL6 : L = 6) {hc_ hm_ : Nat} {ad ac am : Nat → Nat} {H : Heap} {locs : List Loc} (hK : va_K (dC, dI) vwCl [] s) (hP : va_P (dC, dI) vwCl [(hc_, .inr (11, [.ref (ad 0), .ref (ad 1), .ref (ad 2), .ref (ad 3), .ref (ad 4), .ref (ad 5), .ref (ad 6), .ref (ad 7), .ref (ad 8), .int 0, .int 0, .int 0, .int 0])), (ad 4, .inr (2, [.ref (ac 0), .ref (ac 1), .ref (ac 2), .ref (ac 3), .ref (ac 4), .int 0])), (hm_, .inr (12, [.int 0, .int 0, .ref (am 2), .ref (am 3), .ref (am 4), .int 0, .ref (am 6), .ref (am 7), .ref (am 8), .int 0, .ref (am 10), .ref (am 11), .ref (am 12), .ref (am 13), .ref (am 14), .ref (am 15), .int 0, .ref (am 17), .ref (am 18), .ref (am 19), .ref (am 20), .int 0, .ref (am 22), .int 0, .ref (am 24), .ref (am 25), .ref (am 26), .ref (am 27), .ref (am 28), .ref (am 29), .int 0, .ref (am 31), .ref (am 32), .ref (am 33), .int 0, .ref (am 35), .int 0, .ref (am 37), .ref (am 38), .ref (am 39), .ref (am 40), .ref (am 41), .ref (am 42), .ref (am 43), .int 0, .ref (am 45), .ref (am 46), .ref (am 47), .int 0, .ref (am 49), .int 0, .ref (am 51), .int 0, .ref (am 53), .ref (am 54), .int 1, .int 0, .ref (am 57), .long 0, .ref (am 59), .ref (am 60), .long 0, .int 0, .int 0, .int 0, .int 0, .int 0, .int 0, .ref (am 68), .int 0, .int 0, .ref (am 71), .ref (am 72), .ref (am 73), .ref (am 74), .ref (am 75), .ref (am 76), .ref (am 77), .ref (am 78)]))] H) (hD : va_D (fun q : Nat => s.heap.size ≤ q) [(hc_, .inr (11, [.ref (ad 0), .ref (ad 1), .ref (ad 2), .ref (ad 3), .ref (ad 4), .ref (ad 5), .ref (ad 6), .ref (ad 7), .ref (ad 8), .int 0, .int 0, .int 0, .int 0])), (ad 4, .inr (2, [.ref (ac 0), .ref (ac 1), .ref (ac 2), .ref (ac 3), .ref (ac 4), .int 0])), (hm_, .inr (12, [.int 0, .int 0, .ref (am 2), .ref (am 3), .ref (am 4), .int 0, .ref (am 6), .ref (am 7), .ref (am 8), .int 0, .ref (am 10), .ref (am 11), .ref (am 12), .ref (am 13), .ref (am 14), .ref (am 15), .int 0, .ref (am 17), .ref (am 18), .ref (am 19), .ref (am 20), .int 0, .ref (am 22), .int 0, .ref (am 24), .ref (am 25), .ref (am 26), .ref (am 27), .ref (am 28), .ref (am 29), .int 0, .ref (am 31), .ref (am 32), .ref (am 33), .int 0, .ref (am 35), .int 0, .ref (am 37), .ref (am 38), .ref (am 39), .ref (am 40), .ref (am 41), .ref (am 42), .ref (am 43), .int 0, .ref (am 45), .ref (am 46), .ref (am 47), .int 0, .ref (am 49), .int 0, .ref (am 51), .int 0, .ref (am 53), .ref (am 54), .int 1, .int 0, .ref (am 57), .long 0, .ref (am 59), .ref (am 60), .long 0, .int 0, .int 0, .int 0, .int 0, .int 0, .int 0, .ref (am 68), .int 0, .int 0, .ref (am 71), .ref (am 72), .ref (am 73), .ref (am 74), .ref (am 75), .ref (am 76), .ref (am 77), .ref (am 78)]))]) (hS : va_S (fun q : Nat => s.heap.size ≤ q) s.heap H locs) (ls : Array Slot) (hl : lv_has ls 4 [(3, .int 0), (2, .ref hm_), (1, .ref hc_), (0, .ref b)]) : W p l e room_1 s m #[Value.ref b] below meth c H locs 124 5628 (lw_Z below #[Value.ref b] s) (F0 m 1307 ls []) := by
  obtain ⟨hx, hb, hr, hml, hown, hts, hX, hbl, hlocks, hgv⟩ := id C0
  have hown : s.vm.findClass RL = some m.cls := hown
  have hb : c.code = cL_law := hb
  generalize hAe : (fun q : Nat => s.heap.size ≤ q) = A at hD hS 
  have hA : ∀ q : Nat, s.heap.size ≤ q → A q := fun q h => by rw [← hAe]; exact h
  have hbA : ¬ A b := by rw [← hAe]; exact Nat.not_le.mpr hbl
  refine lv_aload_n hx hb dL_law_1307 rfl (lv_at hl 2 rfl) ?_
  refine lv_aload_n hx hb dL_law_1308 rfl (lv_at hl 3 rfl) ?_
  refine lv_iload_n hx hb dL_law_1309 rfl (lv_at hl 0 rfl) ?_
  refine lv_iconst (v := 1) hx hb dL_law_1310 (by decide) ?_
  refine lv_iadd hx hb dL_law_1311 ?_
  refine lv_topi (fun y_1 ey_1 => ?_)
  obtain rfl : y_1 = 1 := ey_1.trans (by decide)
  refine va_sld hx hb hX hbl hbA hS (by rw [hL6]; unfold vp_in; decide) dL_law_1312 ?_
  refine lv_aload_n hx hb dL_law_1313 rfl (lv_at hl 3 rfl) ?_
  refine lv_iload_n hx hb dL_law_1314 rfl (lv_at hl 0 rfl) ?_
  refine lv_iconst (v := 2) hx hb dL_law_1315 (by decide) ?_
  refine lv_iadd hx hb dL_law_1316 ?_
  refine lv_topi (fun y_2 ey_2 => ?_)
  obtain rfl : y_2 = 2 := ey_2.trans (by decide)
  refine va_sld hx hb hX hbl hbA hS (by rw [hL6]; unfold vp_in; decide) dL_law_1317 ?_
  refine lv_aload_n hx hb dL_law_1318 rfl (lv_at hl 3 rfl) ?_
  refine lv_iload_n hx hb dL_law_1319 rfl (lv_at hl 0 rfl) ?_
  refine lv_iconst (v := 3) hx hb dL_law_1320 (by decide) ?_
  refine lv_iadd hx hb dL_law_1321 ?_
  refine lv_topi (fun y_3 ey_3 => ?_)
  obtain rfl : y_3 = 3 := ey_3.trans (by decide)
  refine va_sld hx hb hX hbl hbA hS (by rw [hL6]; unfold vp_in; decide) dL_law_1322 ?_
  have hPc := hP.sub (ws' := [(hc_, .inr (11, [.ref (ad 0), .ref (ad 1), .ref (ad 2), .ref (ad 3), .ref (ad 4), .ref (ad 5), .ref (ad 6), .ref (ad 7), .ref (ad 8), .int 0, .int 0, .int 0, .int 0])), (ad 4, .inr (2, [.ref (ac 0), .ref (ac 1), .ref (ac 2), .ref (ac 3), .ref (ac 4), .int 0]))]) [0, 1] rfl
  have hKc := hK.sub (tys' := []) [] rfl
  refine vp_callSl (va_Run.run (va_runV (As := [.int (xs (1 : Int32).toNatClampNeg), .int (xs (2 : Int32).toNatClampNeg), .int (xs (3 : Int32).toNatClampNeg)]) (rest := []) ⟨hx, hb, hml, hown, hts⟩ (rt_X11_says l dC dI hc_ ad ac (xs (1 : Int32).toNatClampNeg) (xs (2 : Int32).toNatClampNeg) (xs (3 : Int32).toNatClampNeg)) (cwV 3 hts gL_law_X11_says rfl rfl rfl (by decide +kernel) ⟨Nat.le_of_ble_eq_true rfl, Nat.le_of_ble_eq_true rfl⟩) ⟨fun a U g mk q => by obtain ⟨q0, qP, qK⟩ := q; exact ⟨q0, qP, va_K.moved (u := U) (U := U.calling g mk a) (Vm.Alike.refl U.vm) qK⟩, va_recv hKc hPc (ci := 11) (q0 := 0) rfl rfl, fun U hU hW => ⟨rfl, by rw [hU]; exact hPc, va_K.moved hW.alike hKc⟩⟩ rfl rfl hl.1 rfl (lv_room (Nat.le_of_ble_eq_true rfl)) dL_law_1323 ⟨by decide +kernel, by decide +kernel⟩)) (fun r_4 hr_4 => ?_)
  obtain rfl := hr_4
  refine lv_aload_n hx hb dL_law_1326 rfl (lv_at hl 1 rfl) ?_
  refine lv_aload_n hx hb dL_law_1327 rfl (lv_at hl 3 rfl) ?_
  refine lv_iload_n hx hb dL_law_1328 rfl (lv_at hl 0 rfl) ?_
  refine lv_iconst (v := 1) hx hb dL_law_1329 (by decide) ?_
  refine lv_iadd hx hb dL_law_1330 ?_
  refine lv_topi (fun y_5 ey_5 => ?_)
  obtain rfl : y_5 = 1 := ey_5.trans (by decide)
  refine va_sld hx hb hX hbl hbA hS (by rw [hL6]; unfold vp_in; decide) dL_law_1331 ?_
  refine lv_aload_n hx hb dL_law_1332 rfl (lv_at hl 3 rfl) ?_
  refine lv_iload_n hx hb dL_law_1333 rfl (lv_at hl 0 rfl) ?_
  refine lv_iconst (v := 2) hx hb dL_law_1334 (by decide) ?_
  refine lv_iadd hx hb dL_law_1335 ?_
  refine lv_topi (fun y_6 ey_6 => ?_)
  obtain rfl : y_6 = 2 := ey_6.trans (by decide)
  refine va_sld hx hb hX hbl hbA hS (by rw [hL6]; unfold vp_in; decide) dL_law_1336 ?_
  refine lv_aload_n hx hb dL_law_1337 rfl (lv_at hl 3 rfl) ?_
  refine lv_iload_n hx hb dL_law_1338 rfl (lv_at hl 0 rfl) ?_
  refine lv_iconst (v := 3) hx hb dL_law_1339 (by decide) ?_
  refine lv_iadd hx hb dL_law_1340 ?_
  refine lv_topi (fun y_7 ey_7 => ?_)
  obtain rfl : y_7 = 3 := ey_7.trans (by decide)
  refine va_sld hx hb hX hbl hbA hS (by rw [hL6]; unfold vp_in; decide) dL_law_1341 ?_
  have hPc := hP.sub (ws' := [(hm_, .inr (12, [.int 0, .int 0, .ref (am 2), .ref (am 3), .ref (am 4), .int 0, .ref (am 6), .ref (am 7), .ref (am 8), .int 0, .ref (am 10), .ref (am 11), .ref (am 12), .ref (am 13), .ref (am 14), .ref (am 15), .int 0, .ref (am 17), .ref (am 18), .ref (am 19), .ref (am 20), .int 0, .ref (am 22), .int 0, .ref (am 24), .ref (am 25), .ref (am 26), .ref (am 27), .ref (am 28), .ref (am 29), .int 0, .ref (am 31), .ref (am 32), .ref (am 33), .int 0, .ref (am 35), .int 0, .ref (am 37), .ref (am 38), .ref (am 39), .ref (am 40), .ref (am 41), .ref (am 42), .ref (am 43), .int 0, .ref (am 45), .ref (am 46), .ref (am 47), .int 0, .ref (am 49), .int 0, .ref (am 51), .int 0, .ref (am 53), .ref (am 54), .int 1, .int 0, .ref (am 57), .long 0, .ref (am 59), .ref (am 60), .long 0, .int 0, .int 0, .int 0, .int 0, .int 0, .int 0, .ref (am 68), .int 0, .int 0, .ref (am 71), .ref (am 72), .ref (am 73), .ref (am 74), .ref (am 75), .ref (am 76), .ref (am 77), .ref (am 78)]))]) [2] rfl
  have hKc := hK.sub (tys' := []) [] rfl
  refine vp_callSl (va_Run.run (va_runV (As := [.int (xs (1 : Int32).toNatClampNeg), .int (xs (2 : Int32).toNatClampNeg), .int (xs (3 : Int32).toNatClampNeg)]) (rest := [.long (-4611686018427387904)]) ⟨hx, hb, hml, hown, hts⟩ (rt_X12_says l dC dI hm_ am (xs (1 : Int32).toNatClampNeg) (xs (2 : Int32).toNatClampNeg) (xs (3 : Int32).toNatClampNeg)) (cwV 3 hts gL_law_X12_says rfl rfl rfl (by decide +kernel) ⟨Nat.le_of_ble_eq_true rfl, Nat.le_of_ble_eq_true rfl⟩) ⟨fun a U g mk q => by obtain ⟨q0, qP, qK⟩ := q; exact ⟨q0, qP, va_K.moved (u := U) (U := U.calling g mk a) (Vm.Alike.refl U.vm) qK⟩, va_recv hKc hPc (ci := 12) (q0 := 0) rfl rfl, fun U hU hW => ⟨rfl, by rw [hU]; exact hPc, va_K.moved hW.alike hKc⟩⟩ rfl rfl hl.1 rfl (lv_room (Nat.le_of_ble_eq_true rfl)) dL_law_1342 ⟨by decide +kernel, by decide +kernel⟩)) (fun r_8 hr_8 => ?_)
  obtain rfl := hr_8
  refine W.lcmp hx hb dL_law_1345 ?_
  refine lv_topi (fun y_9 ey_9 => ?_)
  obtain rfl : y_9 = 0 := ey_9.trans (by decide)
  refine lv_if_eq (tgt := 1837) hx hb dL_law_1346 (by decide) (fun _ => ?_) (fun c9 => absurd (by decide) c9)
  exact law_fin C0 hL6 hS (by decide +kernel) (by decide +kernel) ls (lv_sub hl [3, 2, 1, 0] rfl)

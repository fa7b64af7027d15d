theorem ck_L_law_69_31law2 : ((cL_law.data.toList).drop 1104).take 16 = [0, 103, 87, 167, 2, 215, 43, 42, 29, 4, 96, 46, 42, 29, 5, 96] := by decide +kernel
theorem ck_L_law_70_31law2 : ((cL_law.data.toList).drop 1120).take 16 = [46, 42, 29, 6, 96, 46, 182, 0, 104, 87, 44, 42, 29, 4, 96, 46] := by decide +kernel
theorem ck_L_law_71_31law2 : ((cL_law.data.toList).drop 1136).take 16 = [42, 29, 5, 96, 46, 42, 29, 6, 96, 46, 182, 0, 107, 87, 167, 2] := by decide +kernel
theorem ck_L_law_72_31law2 : ((cL_law.data.toList).drop 1152).take 16 = [172, 43, 42, 29, 4, 96, 46, 42, 29, 5, 96, 46, 42, 29, 6, 96] := by decide +kernel
theorem ck_L_law_73_31law2 : ((cL_law.data.toList).drop 1168).take 16 = [46, 42, 29, 7, 96, 46, 182, 0, 108, 87, 44, 42, 29, 4, 96, 46] := by decide +kernel
theorem ck_L_law_74_31law2 : ((cL_law.data.toList).drop 1184).take 16 = [42, 29, 5, 96, 46, 42, 29, 6, 96, 46, 42, 29, 7, 96, 46, 182] := by decide +kernel
theorem ck_L_law_75_31law2 : ((cL_law.data.toList).drop 1200).take 16 = [0, 111, 87, 167, 2, 119, 43, 42, 29, 4, 96, 46, 42, 29, 5, 96] := by decide +kernel
theorem ck_L_law_76_31law2 : ((cL_law.data.toList).drop 1216).take 16 = [46, 133, 16, 32, 121, 42, 29, 6, 96, 46, 133, 20, 0, 42, 127, 129] := by decide +kernel
theorem ck_L_law_77_31law2 : ((cL_law.data.toList).drop 1232).take 16 = [182, 0, 112, 87, 44, 42, 29, 4, 96, 46, 42, 29, 5, 96, 46, 133] := by decide +kernel
theorem ck_L_law_78_31law2 : ((cL_law.data.toList).drop 1248).take 16 = [16, 32, 121, 42, 29, 6, 96, 46, 133, 20, 0, 42, 127, 129, 182, 0] := by decide +kernel
theorem ck_L_law_79_31law2 : ((cL_law.data.toList).drop 1264).take 16 = [116, 87, 167, 2, 56, 43, 182, 0, 117, 87, 44, 182, 0, 121, 87, 167] := by decide +kernel
theorem ck_L_law_80_31law2 : ((cL_law.data.toList).drop 1280).take 16 = [2, 43, 43, 42, 29, 4, 96, 46, 182, 0, 122, 87, 44, 42, 29, 4] := by decide +kernel
theorem ck_L_law_81_31law2 : ((cL_law.data.toList).drop 1296).take 16 = [96, 46, 182, 0, 125, 87, 167, 2, 20, 43, 42, 29, 4, 96, 46, 42] := by decide +kernel
theorem ck_L_law_82_31law2 : ((cL_law.data.toList).drop 1312).take 16 = [29, 5, 96, 46, 42, 29, 6, 96, 46, 182, 0, 126, 88, 44, 42, 29] := by decide +kernel
theorem ck_L_law_83_31law2 : ((cL_law.data.toList).drop 1328).take 16 = [4, 96, 46, 42, 29, 5, 96, 46, 42, 29, 6, 96, 46, 182, 0, 129] := by decide +kernel
theorem ck_L_law_84_31law2 : ((cL_law.data.toList).drop 1344).take 16 = [88, 167, 1, 233, 43, 42, 29, 4, 96, 46, 42, 29, 5, 96, 46, 182] := by decide +kernel
theorem ck_L_law_85_31law2 : ((cL_law.data.toList).drop 1360).take 16 = [0, 130, 87, 44, 42, 29, 4, 96, 46, 42, 29, 5, 96, 46, 182, 0] := by decide +kernel
theorem ck_L_law_86_31law2 : ((cL_law.data.toList).drop 1376).take 16 = [133, 87, 167, 1, 200, 43, 42, 29, 4, 96, 46, 42, 29, 5, 96, 46] := by decide +kernel
theorem ck_L_law_87_31law2 : ((cL_law.data.toList).drop 1392).take 16 = [42, 29, 6, 96, 46, 182, 0, 134, 87, 44, 42, 29, 4, 96, 46, 42] := by decide +kernel
theorem ck_L_law_88_31law2 : ((cL_law.data.toList).drop 1408).take 16 = [29, 5, 96, 46, 42, 29, 6, 96, 46, 182, 0, 137, 87, 167, 1, 157] := by decide +kernel
theorem ck_L_law_89_31law2 : ((cL_law.data.toList).drop 1424).take 16 = [43, 182, 0, 138, 87, 44, 182, 0, 141, 87, 167, 1, 144, 43, 42, 29] := by decide +kernel
theorem dL_law_1110 : decode cL_law 1110 = .ok (.aload_n 1, 1) := dk_0 (dk_k43 1110) (dk_by (j := 6) rfl ck_L_law_69_31law2 rfl rfl rfl)
theorem dL_law_1111 : decode cL_law 1111 = .ok (.aload_n 0, 1) := dk_0 (dk_k42 1111) (dk_by (j := 7) rfl ck_L_law_69_31law2 rfl rfl rfl)
theorem dL_law_1112 : decode cL_law 1112 = .ok (.iload_n 3, 1) := dk_0 (dk_k29 1112) (dk_by (j := 8) rfl ck_L_law_69_31law2 rfl rfl rfl)
theorem dL_law_1113 : decode cL_law 1113 = .ok (.iconst 1, 1) := dk_0 (dk_k4 1113) (dk_by (j := 9) rfl ck_L_law_69_31law2 rfl rfl rfl)
theorem dL_law_1114 : decode cL_law 1114 = .ok (.iadd, 1) := dk_0 (dk_k96 1114) (dk_by (j := 10) rfl ck_L_law_69_31law2 rfl rfl rfl)
theorem dL_law_1115 : decode cL_law 1115 = .ok (.iaload, 1) := dk_0 (dk_k46 1115) (dk_by (j := 11) rfl ck_L_law_69_31law2 rfl rfl rfl)
theorem dL_law_1116 : decode cL_law 1116 = .ok (.aload_n 0, 1) := dk_0 (dk_k42 1116) (dk_by (j := 12) rfl ck_L_law_69_31law2 rfl rfl rfl)
theorem dL_law_1117 : decode cL_law 1117 = .ok (.iload_n 3, 1) := dk_0 (dk_k29 1117) (dk_by (j := 13) rfl ck_L_law_69_31law2 rfl rfl rfl)
theorem dL_law_1118 : decode cL_law 1118 = .ok (.iconst 2, 1) := dk_0 (dk_k5 1118) (dk_by (j := 14) rfl ck_L_law_69_31law2 rfl rfl rfl)
theorem dL_law_1119 : decode cL_law 1119 = .ok (.iadd, 1) := dk_0 (dk_k96 1119) (dk_by (j := 15) rfl ck_L_law_69_31law2 rfl rfl rfl)
theorem dL_law_1120 : decode cL_law 1120 = .ok (.iaload, 1) := dk_0 (dk_k46 1120) (dk_by (j := 0) rfl ck_L_law_70_31law2 rfl rfl rfl)
theorem dL_law_1121 : decode cL_law 1121 = .ok (.aload_n 0, 1) := dk_0 (dk_k42 1121) (dk_by (j := 1) rfl ck_L_law_70_31law2 rfl rfl rfl)
theorem dL_law_1122 : decode cL_law 1122 = .ok (.iload_n 3, 1) := dk_0 (dk_k29 1122) (dk_by (j := 2) rfl ck_L_law_70_31law2 rfl rfl rfl)
theorem dL_law_1123 : decode cL_law 1123 = .ok (.iconst 3, 1) := dk_0 (dk_k6 1123) (dk_by (j := 3) rfl ck_L_law_70_31law2 rfl rfl rfl)
theorem dL_law_1124 : decode cL_law 1124 = .ok (.iadd, 1) := dk_0 (dk_k96 1124) (dk_by (j := 4) rfl ck_L_law_70_31law2 rfl rfl rfl)
theorem dL_law_1125 : decode cL_law 1125 = .ok (.iaload, 1) := dk_0 (dk_k46 1125) (dk_by (j := 5) rfl ck_L_law_70_31law2 rfl rfl rfl)
theorem gL_law_X11_last : GoodIn lw_tbl (wsV RL 104 RX11 yX11_last wsX11_last) := ru_gL (ru_gV tw_4_22 tw_4_23 tw_4_24 tw_1_1 mT_X11_last)
theorem dL_law_1126 : decode cL_law 1126 = .ok (.invokevirtual 104, 3) := dk_2 (dk_k182 1126) (dk_by (j := 6) rfl ck_L_law_70_31law2 rfl rfl rfl) (dk_by (j := 7) rfl ck_L_law_70_31law2 rfl rfl rfl) (dk_by (j := 8) rfl ck_L_law_70_31law2 rfl rfl rfl) (by decide)
theorem dL_law_1129 : decode cL_law 1129 = .ok (.pop, 1) := dk_0 (dk_k87 1129) (dk_by (j := 9) rfl ck_L_law_70_31law2 rfl rfl rfl)
theorem dL_law_1130 : decode cL_law 1130 = .ok (.aload_n 2, 1) := dk_0 (dk_k44 1130) (dk_by (j := 10) rfl ck_L_law_70_31law2 rfl rfl rfl)
theorem dL_law_1131 : decode cL_law 1131 = .ok (.aload_n 0, 1) := dk_0 (dk_k42 1131) (dk_by (j := 11) rfl ck_L_law_70_31law2 rfl rfl rfl)
theorem dL_law_1132 : decode cL_law 1132 = .ok (.iload_n 3, 1) := dk_0 (dk_k29 1132) (dk_by (j := 12) rfl ck_L_law_70_31law2 rfl rfl rfl)
theorem dL_law_1133 : decode cL_law 1133 = .ok (.iconst 1, 1) := dk_0 (dk_k4 1133) (dk_by (j := 13) rfl ck_L_law_70_31law2 rfl rfl rfl)
theorem dL_law_1134 : decode cL_law 1134 = .ok (.iadd, 1) := dk_0 (dk_k96 1134) (dk_by (j := 14) rfl ck_L_law_70_31law2 rfl rfl rfl)
theorem dL_law_1135 : decode cL_law 1135 = .ok (.iaload, 1) := dk_0 (dk_k46 1135) (dk_by (j := 15) rfl ck_L_law_70_31law2 rfl rfl rfl)
theorem dL_law_1136 : decode cL_law 1136 = .ok (.aload_n 0, 1) := dk_0 (dk_k42 1136) (dk_by (j := 0) rfl ck_L_law_71_31law2 rfl rfl rfl)
theorem dL_law_1137 : decode cL_law 1137 = .ok (.iload_n 3, 1) := dk_0 (dk_k29 1137) (dk_by (j := 1) rfl ck_L_law_71_31law2 rfl rfl rfl)
theorem dL_law_1138 : decode cL_law 1138 = .ok (.iconst 2, 1) := dk_0 (dk_k5 1138) (dk_by (j := 2) rfl ck_L_law_71_31law2 rfl rfl rfl)
theorem dL_law_1139 : decode cL_law 1139 = .ok (.iadd, 1) := dk_0 (dk_k96 1139) (dk_by (j := 3) rfl ck_L_law_71_31law2 rfl rfl rfl)
theorem dL_law_1140 : decode cL_law 1140 = .ok (.iaload, 1) := dk_0 (dk_k46 1140) (dk_by (j := 4) rfl ck_L_law_71_31law2 rfl rfl rfl)
theorem dL_law_1141 : decode cL_law 1141 = .ok (.aload_n 0, 1) := dk_0 (dk_k42 1141) (dk_by (j := 5) rfl ck_L_law_71_31law2 rfl rfl rfl)
theorem dL_law_1142 : decode cL_law 1142 = .ok (.iload_n 3, 1) := dk_0 (dk_k29 1142) (dk_by (j := 6) rfl ck_L_law_71_31law2 rfl rfl rfl)
theorem dL_law_1143 : decode cL_law 1143 = .ok (.iconst 3, 1) := dk_0 (dk_k6 1143) (dk_by (j := 7) rfl ck_L_law_71_31law2 rfl rfl rfl)
theorem dL_law_1144 : decode cL_law 1144 = .ok (.iadd, 1) := dk_0 (dk_k96 1144) (dk_by (j := 8) rfl ck_L_law_71_31law2 rfl rfl rfl)
theorem dL_law_1145 : decode cL_law 1145 = .ok (.iaload, 1) := dk_0 (dk_k46 1145) (dk_by (j := 9) rfl ck_L_law_71_31law2 rfl rfl rfl)
theorem gL_law_X12_last : GoodIn lw_tbl (wsV RL 107 RX12 yX12_last wsX12_last) := ru_gL (ru_gV tw_7_50 tw_7_51 tw_7_52 tw_1_12 mT_X12_last)
theorem dL_law_1146 : decode cL_law 1146 = .ok (.invokevirtual 107, 3) := dk_2 (dk_k182 1146) (dk_by (j := 10) rfl ck_L_law_71_31law2 rfl rfl rfl) (dk_by (j := 11) rfl ck_L_law_71_31law2 rfl rfl rfl) (dk_by (j := 12) rfl ck_L_law_71_31law2 rfl rfl rfl) (by decide)
theorem dL_law_1149 : decode cL_law 1149 = .ok (.pop, 1) := dk_0 (dk_k87 1149) (dk_by (j := 13) rfl ck_L_law_71_31law2 rfl rfl rfl)
theorem dL_law_1150 : decode cL_law 1150 = .ok (.goto 684, 3) := dk_s (dk_k167 1150) (dk_by (j := 14) rfl ck_L_law_71_31law2 rfl rfl rfl) (dk_by (j := 15) rfl ck_L_law_71_31law2 rfl rfl rfl) (dk_by (j := 0) rfl ck_L_law_72_31law2 rfl rfl rfl) (by decide)
theorem dL_law_1153 : decode cL_law 1153 = .ok (.aload_n 1, 1) := dk_0 (dk_k43 1153) (dk_by (j := 1) rfl ck_L_law_72_31law2 rfl rfl rfl)
theorem dL_law_1154 : decode cL_law 1154 = .ok (.aload_n 0, 1) := dk_0 (dk_k42 1154) (dk_by (j := 2) rfl ck_L_law_72_31law2 rfl rfl rfl)
theorem dL_law_1155 : decode cL_law 1155 = .ok (.iload_n 3, 1) := dk_0 (dk_k29 1155) (dk_by (j := 3) rfl ck_L_law_72_31law2 rfl rfl rfl)
theorem dL_law_1156 : decode cL_law 1156 = .ok (.iconst 1, 1) := dk_0 (dk_k4 1156) (dk_by (j := 4) rfl ck_L_law_72_31law2 rfl rfl rfl)
theorem dL_law_1157 : decode cL_law 1157 = .ok (.iadd, 1) := dk_0 (dk_k96 1157) (dk_by (j := 5) rfl ck_L_law_72_31law2 rfl rfl rfl)
theorem dL_law_1158 : decode cL_law 1158 = .ok (.iaload, 1) := dk_0 (dk_k46 1158) (dk_by (j := 6) rfl ck_L_law_72_31law2 rfl rfl rfl)
theorem dL_law_1159 : decode cL_law 1159 = .ok (.aload_n 0, 1) := dk_0 (dk_k42 1159) (dk_by (j := 7) rfl ck_L_law_72_31law2 rfl rfl rfl)
theorem dL_law_1160 : decode cL_law 1160 = .ok (.iload_n 3, 1) := dk_0 (dk_k29 1160) (dk_by (j := 8) rfl ck_L_law_72_31law2 rfl rfl rfl)
theorem dL_law_1161 : decode cL_law 1161 = .ok (.iconst 2, 1) := dk_0 (dk_k5 1161) (dk_by (j := 9) rfl ck_L_law_72_31law2 rfl rfl rfl)
theorem dL_law_1162 : decode cL_law 1162 = .ok (.iadd, 1) := dk_0 (dk_k96 1162) (dk_by (j := 10) rfl ck_L_law_72_31law2 rfl rfl rfl)
theorem dL_law_1163 : decode cL_law 1163 = .ok (.iaload, 1) := dk_0 (dk_k46 1163) (dk_by (j := 11) rfl ck_L_law_72_31law2 rfl rfl rfl)
theorem dL_law_1164 : decode cL_law 1164 = .ok (.aload_n 0, 1) := dk_0 (dk_k42 1164) (dk_by (j := 12) rfl ck_L_law_72_31law2 rfl rfl rfl)
theorem dL_law_1165 : decode cL_law 1165 = .ok (.iload_n 3, 1) := dk_0 (dk_k29 1165) (dk_by (j := 13) rfl ck_L_law_72_31law2 rfl rfl rfl)
theorem dL_law_1166 : decode cL_law 1166 = .ok (.iconst 3, 1) := dk_0 (dk_k6 1166) (dk_by (j := 14) rfl ck_L_law_72_31law2 rfl rfl rfl)
theorem dL_law_1167 : decode cL_law 1167 = .ok (.iadd, 1) := dk_0 (dk_k96 1167) (dk_by (j := 15) rfl ck_L_law_72_31law2 rfl rfl rfl)
theorem dL_law_1168 : decode cL_law 1168 = .ok (.iaload, 1) := dk_0 (dk_k46 1168) (dk_by (j := 0) rfl ck_L_law_73_31law2 rfl rfl rfl)
theorem dL_law_1169 : decode cL_law 1169 = .ok (.aload_n 0, 1) := dk_0 (dk_k42 1169) (dk_by (j := 1) rfl ck_L_law_73_31law2 rfl rfl rfl)
theorem dL_law_1170 : decode cL_law 1170 = .ok (.iload_n 3, 1) := dk_0 (dk_k29 1170) (dk_by (j := 2) rfl ck_L_law_73_31law2 rfl rfl rfl)
theorem dL_law_1171 : decode cL_law 1171 = .ok (.iconst 4, 1) := dk_0 (dk_k7 1171) (dk_by (j := 3) rfl ck_L_law_73_31law2 rfl rfl rfl)
theorem dL_law_1172 : decode cL_law 1172 = .ok (.iadd, 1) := dk_0 (dk_k96 1172) (dk_by (j := 4) rfl ck_L_law_73_31law2 rfl rfl rfl)
theorem dL_law_1173 : decode cL_law 1173 = .ok (.iaload, 1) := dk_0 (dk_k46 1173) (dk_by (j := 5) rfl ck_L_law_73_31law2 rfl rfl rfl)
theorem gL_law_X11_man : GoodIn lw_tbl (wsV RL 108 RX11 yX11_man wsX11_man) := ru_gL (ru_gV tw_4_26 tw_4_27 tw_4_28 tw_1_1 mT_X11_man)
theorem dL_law_1174 : decode cL_law 1174 = .ok (.invokevirtual 108, 3) := dk_2 (dk_k182 1174) (dk_by (j := 6) rfl ck_L_law_73_31law2 rfl rfl rfl) (dk_by (j := 7) rfl ck_L_law_73_31law2 rfl rfl rfl) (dk_by (j := 8) rfl ck_L_law_73_31law2 rfl rfl rfl) (by decide)
theorem dL_law_1177 : decode cL_law 1177 = .ok (.pop, 1) := dk_0 (dk_k87 1177) (dk_by (j := 9) rfl ck_L_law_73_31law2 rfl rfl rfl)
theorem dL_law_1178 : decode cL_law 1178 = .ok (.aload_n 2, 1) := dk_0 (dk_k44 1178) (dk_by (j := 10) rfl ck_L_law_73_31law2 rfl rfl rfl)
theorem dL_law_1179 : decode cL_law 1179 = .ok (.aload_n 0, 1) := dk_0 (dk_k42 1179) (dk_by (j := 11) rfl ck_L_law_73_31law2 rfl rfl rfl)
theorem dL_law_1180 : decode cL_law 1180 = .ok (.iload_n 3, 1) := dk_0 (dk_k29 1180) (dk_by (j := 12) rfl ck_L_law_73_31law2 rfl rfl rfl)
theorem dL_law_1181 : decode cL_law 1181 = .ok (.iconst 1, 1) := dk_0 (dk_k4 1181) (dk_by (j := 13) rfl ck_L_law_73_31law2 rfl rfl rfl)
theorem dL_law_1182 : decode cL_law 1182 = .ok (.iadd, 1) := dk_0 (dk_k96 1182) (dk_by (j := 14) rfl ck_L_law_73_31law2 rfl rfl rfl)
theorem dL_law_1183 : decode cL_law 1183 = .ok (.iaload, 1) := dk_0 (dk_k46 1183) (dk_by (j := 15) rfl ck_L_law_73_31law2 rfl rfl rfl)
theorem dL_law_1184 : decode cL_law 1184 = .ok (.aload_n 0, 1) := dk_0 (dk_k42 1184) (dk_by (j := 0) rfl ck_L_law_74_31law2 rfl rfl rfl)
theorem dL_law_1185 : decode cL_law 1185 = .ok (.iload_n 3, 1) := dk_0 (dk_k29 1185) (dk_by (j := 1) rfl ck_L_law_74_31law2 rfl rfl rfl)
theorem dL_law_1186 : decode cL_law 1186 = .ok (.iconst 2, 1) := dk_0 (dk_k5 1186) (dk_by (j := 2) rfl ck_L_law_74_31law2 rfl rfl rfl)
theorem dL_law_1187 : decode cL_law 1187 = .ok (.iadd, 1) := dk_0 (dk_k96 1187) (dk_by (j := 3) rfl ck_L_law_74_31law2 rfl rfl rfl)
theorem dL_law_1188 : decode cL_law 1188 = .ok (.iaload, 1) := dk_0 (dk_k46 1188) (dk_by (j := 4) rfl ck_L_law_74_31law2 rfl rfl rfl)
theorem dL_law_1189 : decode cL_law 1189 = .ok (.aload_n 0, 1) := dk_0 (dk_k42 1189) (dk_by (j := 5) rfl ck_L_law_74_31law2 rfl rfl rfl)
theorem dL_law_1190 : decode cL_law 1190 = .ok (.iload_n 3, 1) := dk_0 (dk_k29 1190) (dk_by (j := 6) rfl ck_L_law_74_31law2 rfl rfl rfl)
theorem dL_law_1191 : decode cL_law 1191 = .ok (.iconst 3, 1) := dk_0 (dk_k6 1191) (dk_by (j := 7) rfl ck_L_law_74_31law2 rfl rfl rfl)
theorem dL_law_1192 : decode cL_law 1192 = .ok (.iadd, 1) := dk_0 (dk_k96 1192) (dk_by (j := 8) rfl ck_L_law_74_31law2 rfl rfl rfl)
theorem dL_law_1193 : decode cL_law 1193 = .ok (.iaload, 1) := dk_0 (dk_k46 1193) (dk_by (j := 9) rfl ck_L_law_74_31law2 rfl rfl rfl)
theorem dL_law_1194 : decode cL_law 1194 = .ok (.aload_n 0, 1) := dk_0 (dk_k42 1194) (dk_by (j := 10) rfl ck_L_law_74_31law2 rfl rfl rfl)
theorem dL_law_1195 : decode cL_law 1195 = .ok (.iload_n 3, 1) := dk_0 (dk_k29 1195) (dk_by (j := 11) rfl ck_L_law_74_31law2 rfl rfl rfl)
theorem dL_law_1196 : decode cL_law 1196 = .ok (.iconst 4, 1) := dk_0 (dk_k7 1196) (dk_by (j := 12) rfl ck_L_law_74_31law2 rfl rfl rfl)
theorem dL_law_1197 : decode cL_law 1197 = .ok (.iadd, 1) := dk_0 (dk_k96 1197) (dk_by (j := 13) rfl ck_L_law_74_31law2 rfl rfl rfl)
theorem dL_law_1198 : decode cL_law 1198 = .ok (.iaload, 1) := dk_0 (dk_k46 1198) (dk_by (j := 14) rfl ck_L_law_74_31law2 rfl rfl rfl)
theorem gL_law_X12_man : GoodIn lw_tbl (wsV RL 111 RX12 yX12_man wsX12_man) := ru_gL (ru_gV tw_7_54 tw_7_55 tw_7_56 tw_1_12 mT_X12_man)
theorem dL_law_1199 : decode cL_law 1199 = .ok (.invokevirtual 111, 3) := dk_2 (dk_k182 1199) (dk_by (j := 15) rfl ck_L_law_74_31law2 rfl rfl rfl) (dk_by (j := 0) rfl ck_L_law_75_31law2 rfl rfl rfl) (dk_by (j := 1) rfl ck_L_law_75_31law2 rfl rfl rfl) (by decide)
theorem dL_law_1202 : decode cL_law 1202 = .ok (.pop, 1) := dk_0 (dk_k87 1202) (dk_by (j := 2) rfl ck_L_law_75_31law2 rfl rfl rfl)
theorem dL_law_1203 : decode cL_law 1203 = .ok (.goto 631, 3) := dk_s (dk_k167 1203) (dk_by (j := 3) rfl ck_L_law_75_31law2 rfl rfl rfl) (dk_by (j := 4) rfl ck_L_law_75_31law2 rfl rfl rfl) (dk_by (j := 5) rfl ck_L_law_75_31law2 rfl rfl rfl) (by decide)
theorem dL_law_1206 : decode cL_law 1206 = .ok (.aload_n 1, 1) := dk_0 (dk_k43 1206) (dk_by (j := 6) rfl ck_L_law_75_31law2 rfl rfl rfl)
theorem dL_law_1207 : decode cL_law 1207 = .ok (.aload_n 0, 1) := dk_0 (dk_k42 1207) (dk_by (j := 7) rfl ck_L_law_75_31law2 rfl rfl rfl)
theorem dL_law_1208 : decode cL_law 1208 = .ok (.iload_n 3, 1) := dk_0 (dk_k29 1208) (dk_by (j := 8) rfl ck_L_law_75_31law2 rfl rfl rfl)
theorem dL_law_1209 : decode cL_law 1209 = .ok (.iconst 1, 1) := dk_0 (dk_k4 1209) (dk_by (j := 9) rfl ck_L_law_75_31law2 rfl rfl rfl)
theorem dL_law_1210 : decode cL_law 1210 = .ok (.iadd, 1) := dk_0 (dk_k96 1210) (dk_by (j := 10) rfl ck_L_law_75_31law2 rfl rfl rfl)
theorem dL_law_1211 : decode cL_law 1211 = .ok (.iaload, 1) := dk_0 (dk_k46 1211) (dk_by (j := 11) rfl ck_L_law_75_31law2 rfl rfl rfl)
theorem dL_law_1212 : decode cL_law 1212 = .ok (.aload_n 0, 1) := dk_0 (dk_k42 1212) (dk_by (j := 12) rfl ck_L_law_75_31law2 rfl rfl rfl)
theorem dL_law_1213 : decode cL_law 1213 = .ok (.iload_n 3, 1) := dk_0 (dk_k29 1213) (dk_by (j := 13) rfl ck_L_law_75_31law2 rfl rfl rfl)
theorem dL_law_1214 : decode cL_law 1214 = .ok (.iconst 2, 1) := dk_0 (dk_k5 1214) (dk_by (j := 14) rfl ck_L_law_75_31law2 rfl rfl rfl)
theorem dL_law_1215 : decode cL_law 1215 = .ok (.iadd, 1) := dk_0 (dk_k96 1215) (dk_by (j := 15) rfl ck_L_law_75_31law2 rfl rfl rfl)
theorem dL_law_1216 : decode cL_law 1216 = .ok (.iaload, 1) := dk_0 (dk_k46 1216) (dk_by (j := 0) rfl ck_L_law_76_31law2 rfl rfl rfl)
theorem dL_law_1217 : decode cL_law 1217 = .ok (.i2l, 1) := dk_0 (dk_k133 1217) (dk_by (j := 1) rfl ck_L_law_76_31law2 rfl rfl rfl)
theorem dL_law_1218 : decode cL_law 1218 = .ok (.bipush 32, 2) := dk_1 (dk_k16 1218) (dk_by (j := 2) rfl ck_L_law_76_31law2 rfl rfl rfl) (dk_by (j := 3) rfl ck_L_law_76_31law2 rfl rfl rfl) (by decide)
theorem dL_law_1220 : decode cL_law 1220 = .ok (.lshl, 1) := dk_0 (dk_k121 1220) (dk_by (j := 4) rfl ck_L_law_76_31law2 rfl rfl rfl)
theorem dL_law_1221 : decode cL_law 1221 = .ok (.aload_n 0, 1) := dk_0 (dk_k42 1221) (dk_by (j := 5) rfl ck_L_law_76_31law2 rfl rfl rfl)
theorem dL_law_1222 : decode cL_law 1222 = .ok (.iload_n 3, 1) := dk_0 (dk_k29 1222) (dk_by (j := 6) rfl ck_L_law_76_31law2 rfl rfl rfl)
theorem dL_law_1223 : decode cL_law 1223 = .ok (.iconst 3, 1) := dk_0 (dk_k6 1223) (dk_by (j := 7) rfl ck_L_law_76_31law2 rfl rfl rfl)
theorem dL_law_1224 : decode cL_law 1224 = .ok (.iadd, 1) := dk_0 (dk_k96 1224) (dk_by (j := 8) rfl ck_L_law_76_31law2 rfl rfl rfl)
theorem dL_law_1225 : decode cL_law 1225 = .ok (.iaload, 1) := dk_0 (dk_k46 1225) (dk_by (j := 9) rfl ck_L_law_76_31law2 rfl rfl rfl)
theorem dL_law_1226 : decode cL_law 1226 = .ok (.i2l, 1) := dk_0 (dk_k133 1226) (dk_by (j := 10) rfl ck_L_law_76_31law2 rfl rfl rfl)
theorem dL_law_1227 : decode cL_law 1227 = .ok (.ldc2_w 42, 3) := dk_2 (dk_k20 1227) (dk_by (j := 11) rfl ck_L_law_76_31law2 rfl rfl rfl) (dk_by (j := 12) rfl ck_L_law_76_31law2 rfl rfl rfl) (dk_by (j := 13) rfl ck_L_law_76_31law2 rfl rfl rfl) (by decide)
theorem dL_law_1230 : decode cL_law 1230 = .ok (.land, 1) := dk_0 (dk_k127 1230) (dk_by (j := 14) rfl ck_L_law_76_31law2 rfl rfl rfl)
theorem dL_law_1231 : decode cL_law 1231 = .ok (.lor, 1) := dk_0 (dk_k129 1231) (dk_by (j := 15) rfl ck_L_law_76_31law2 rfl rfl rfl)
theorem gL_law_X11_feed : GoodIn lw_tbl (wsV RL 112 RX11 yX11_feed wsX11_feed) := ru_gL (ru_gV tw_4_37 tw_4_38 tw_4_39 tw_1_1 mT_X11_feed)
theorem dL_law_1232 : decode cL_law 1232 = .ok (.invokevirtual 112, 3) := dk_2 (dk_k182 1232) (dk_by (j := 0) rfl ck_L_law_77_31law2 rfl rfl rfl) (dk_by (j := 1) rfl ck_L_law_77_31law2 rfl rfl rfl) (dk_by (j := 2) rfl ck_L_law_77_31law2 rfl rfl rfl) (by decide)
theorem dL_law_1235 : decode cL_law 1235 = .ok (.pop, 1) := dk_0 (dk_k87 1235) (dk_by (j := 3) rfl ck_L_law_77_31law2 rfl rfl rfl)
theorem dL_law_1236 : decode cL_law 1236 = .ok (.aload_n 2, 1) := dk_0 (dk_k44 1236) (dk_by (j := 4) rfl ck_L_law_77_31law2 rfl rfl rfl)
theorem dL_law_1237 : decode cL_law 1237 = .ok (.aload_n 0, 1) := dk_0 (dk_k42 1237) (dk_by (j := 5) rfl ck_L_law_77_31law2 rfl rfl rfl)
theorem dL_law_1238 : decode cL_law 1238 = .ok (.iload_n 3, 1) := dk_0 (dk_k29 1238) (dk_by (j := 6) rfl ck_L_law_77_31law2 rfl rfl rfl)
theorem dL_law_1239 : decode cL_law 1239 = .ok (.iconst 1, 1) := dk_0 (dk_k4 1239) (dk_by (j := 7) rfl ck_L_law_77_31law2 rfl rfl rfl)
theorem dL_law_1240 : decode cL_law 1240 = .ok (.iadd, 1) := dk_0 (dk_k96 1240) (dk_by (j := 8) rfl ck_L_law_77_31law2 rfl rfl rfl)
theorem dL_law_1241 : decode cL_law 1241 = .ok (.iaload, 1) := dk_0 (dk_k46 1241) (dk_by (j := 9) rfl ck_L_law_77_31law2 rfl rfl rfl)
theorem dL_law_1242 : decode cL_law 1242 = .ok (.aload_n 0, 1) := dk_0 (dk_k42 1242) (dk_by (j := 10) rfl ck_L_law_77_31law2 rfl rfl rfl)
theorem dL_law_1243 : decode cL_law 1243 = .ok (.iload_n 3, 1) := dk_0 (dk_k29 1243) (dk_by (j := 11) rfl ck_L_law_77_31law2 rfl rfl rfl)
theorem dL_law_1244 : decode cL_law 1244 = .ok (.iconst 2, 1) := dk_0 (dk_k5 1244) (dk_by (j := 12) rfl ck_L_law_77_31law2 rfl rfl rfl)
theorem dL_law_1245 : decode cL_law 1245 = .ok (.iadd, 1) := dk_0 (dk_k96 1245) (dk_by (j := 13) rfl ck_L_law_77_31law2 rfl rfl rfl)
theorem dL_law_1246 : decode cL_law 1246 = .ok (.iaload, 1) := dk_0 (dk_k46 1246) (dk_by (j := 14) rfl ck_L_law_77_31law2 rfl rfl rfl)
theorem dL_law_1247 : decode cL_law 1247 = .ok (.i2l, 1) := dk_0 (dk_k133 1247) (dk_by (j := 15) rfl ck_L_law_77_31law2 rfl rfl rfl)
theorem dL_law_1248 : decode cL_law 1248 = .ok (.bipush 32, 2) := dk_1 (dk_k16 1248) (dk_by (j := 0) rfl ck_L_law_78_31law2 rfl rfl rfl) (dk_by (j := 1) rfl ck_L_law_78_31law2 rfl rfl rfl) (by decide)
theorem dL_law_1250 : decode cL_law 1250 = .ok (.lshl, 1) := dk_0 (dk_k121 1250) (dk_by (j := 2) rfl ck_L_law_78_31law2 rfl rfl rfl)
theorem dL_law_1251 : decode cL_law 1251 = .ok (.aload_n 0, 1) := dk_0 (dk_k42 1251) (dk_by (j := 3) rfl ck_L_law_78_31law2 rfl rfl rfl)
theorem dL_law_1252 : decode cL_law 1252 = .ok (.iload_n 3, 1) := dk_0 (dk_k29 1252) (dk_by (j := 4) rfl ck_L_law_78_31law2 rfl rfl rfl)
theorem dL_law_1253 : decode cL_law 1253 = .ok (.iconst 3, 1) := dk_0 (dk_k6 1253) (dk_by (j := 5) rfl ck_L_law_78_31law2 rfl rfl rfl)
theorem dL_law_1254 : decode cL_law 1254 = .ok (.iadd, 1) := dk_0 (dk_k96 1254) (dk_by (j := 6) rfl ck_L_law_78_31law2 rfl rfl rfl)
theorem dL_law_1255 : decode cL_law 1255 = .ok (.iaload, 1) := dk_0 (dk_k46 1255) (dk_by (j := 7) rfl ck_L_law_78_31law2 rfl rfl rfl)
theorem dL_law_1256 : decode cL_law 1256 = .ok (.i2l, 1) := dk_0 (dk_k133 1256) (dk_by (j := 8) rfl ck_L_law_78_31law2 rfl rfl rfl)
theorem dL_law_1257 : decode cL_law 1257 = .ok (.ldc2_w 42, 3) := dk_2 (dk_k20 1257) (dk_by (j := 9) rfl ck_L_law_78_31law2 rfl rfl rfl) (dk_by (j := 10) rfl ck_L_law_78_31law2 rfl rfl rfl) (dk_by (j := 11) rfl ck_L_law_78_31law2 rfl rfl rfl) (by decide)
theorem dL_law_1260 : decode cL_law 1260 = .ok (.land, 1) := dk_0 (dk_k127 1260) (dk_by (j := 12) rfl ck_L_law_78_31law2 rfl rfl rfl)
theorem dL_law_1261 : decode cL_law 1261 = .ok (.lor, 1) := dk_0 (dk_k129 1261) (dk_by (j := 13) rfl ck_L_law_78_31law2 rfl rfl rfl)
theorem gL_law_X12_feed : GoodIn lw_tbl (wsV RL 116 RX12 yX12_feed wsX12_feed) := ru_gL (ru_gV tw_7_58 tw_7_59 tw_7_60 tw_1_12 mT_X12_feed)
theorem dL_law_1262 : decode cL_law 1262 = .ok (.invokevirtual 116, 3) := dk_2 (dk_k182 1262) (dk_by (j := 14) rfl ck_L_law_78_31law2 rfl rfl rfl) (dk_by (j := 15) rfl ck_L_law_78_31law2 rfl rfl rfl) (dk_by (j := 0) rfl ck_L_law_79_31law2 rfl rfl rfl) (by decide)
theorem dL_law_1265 : decode cL_law 1265 = .ok (.pop, 1) := dk_0 (dk_k87 1265) (dk_by (j := 1) rfl ck_L_law_79_31law2 rfl rfl rfl)
theorem dL_law_1266 : decode cL_law 1266 = .ok (.goto 568, 3) := dk_s (dk_k167 1266) (dk_by (j := 2) rfl ck_L_law_79_31law2 rfl rfl rfl) (dk_by (j := 3) rfl ck_L_law_79_31law2 rfl rfl rfl) (dk_by (j := 4) rfl ck_L_law_79_31law2 rfl rfl rfl) (by decide)
theorem dL_law_1269 : decode cL_law 1269 = .ok (.aload_n 1, 1) := dk_0 (dk_k43 1269) (dk_by (j := 5) rfl ck_L_law_79_31law2 rfl rfl rfl)
theorem gL_law_X11_text : GoodIn lw_tbl (wsV RL 117 RX11 yX11_text wsX11_text) := ru_gL (ru_gV tw_4_46 tw_4_47 tw_4_48 tw_1_1 mT_X11_text)
theorem dL_law_1270 : decode cL_law 1270 = .ok (.invokevirtual 117, 3) := dk_2 (dk_k182 1270) (dk_by (j := 6) rfl ck_L_law_79_31law2 rfl rfl rfl) (dk_by (j := 7) rfl ck_L_law_79_31law2 rfl rfl rfl) (dk_by (j := 8) rfl ck_L_law_79_31law2 rfl rfl rfl) (by decide)
theorem dL_law_1273 : decode cL_law 1273 = .ok (.pop, 1) := dk_0 (dk_k87 1273) (dk_by (j := 9) rfl ck_L_law_79_31law2 rfl rfl rfl)
theorem dL_law_1274 : decode cL_law 1274 = .ok (.aload_n 2, 1) := dk_0 (dk_k44 1274) (dk_by (j := 10) rfl ck_L_law_79_31law2 rfl rfl rfl)
theorem gL_law_X12_text : GoodIn lw_tbl (wsV RL 121 RX12 yX12_text wsX12_text) := ru_gL (ru_gV tw_7_63 tw_7_64 tw_7_65 tw_1_12 mT_X12_text)
theorem dL_law_1275 : decode cL_law 1275 = .ok (.invokevirtual 121, 3) := dk_2 (dk_k182 1275) (dk_by (j := 11) rfl ck_L_law_79_31law2 rfl rfl rfl) (dk_by (j := 12) rfl ck_L_law_79_31law2 rfl rfl rfl) (dk_by (j := 13) rfl ck_L_law_79_31law2 rfl rfl rfl) (by decide)
theorem dL_law_1278 : decode cL_law 1278 = .ok (.pop, 1) := dk_0 (dk_k87 1278) (dk_by (j := 14) rfl ck_L_law_79_31law2 rfl rfl rfl)
theorem dL_law_1279 : decode cL_law 1279 = .ok (.goto 555, 3) := dk_s (dk_k167 1279) (dk_by (j := 15) rfl ck_L_law_79_31law2 rfl rfl rfl) (dk_by (j := 0) rfl ck_L_law_80_31law2 rfl rfl rfl) (dk_by (j := 1) rfl ck_L_law_80_31law2 rfl rfl rfl) (by decide)
theorem dL_law_1282 : decode cL_law 1282 = .ok (.aload_n 1, 1) := dk_0 (dk_k43 1282) (dk_by (j := 2) rfl ck_L_law_80_31law2 rfl rfl rfl)
theorem dL_law_1283 : decode cL_law 1283 = .ok (.aload_n 0, 1) := dk_0 (dk_k42 1283) (dk_by (j := 3) rfl ck_L_law_80_31law2 rfl rfl rfl)
theorem dL_law_1284 : decode cL_law 1284 = .ok (.iload_n 3, 1) := dk_0 (dk_k29 1284) (dk_by (j := 4) rfl ck_L_law_80_31law2 rfl rfl rfl)
theorem dL_law_1285 : decode cL_law 1285 = .ok (.iconst 1, 1) := dk_0 (dk_k4 1285) (dk_by (j := 5) rfl ck_L_law_80_31law2 rfl rfl rfl)
theorem dL_law_1286 : decode cL_law 1286 = .ok (.iadd, 1) := dk_0 (dk_k96 1286) (dk_by (j := 6) rfl ck_L_law_80_31law2 rfl rfl rfl)
theorem dL_law_1287 : decode cL_law 1287 = .ok (.iaload, 1) := dk_0 (dk_k46 1287) (dk_by (j := 7) rfl ck_L_law_80_31law2 rfl rfl rfl)
theorem gL_law_X11_force : GoodIn lw_tbl (wsV RL 122 RX11 yX11_force wsX11_force) := ru_gL (ru_gV tw_4_201 tw_4_202 tw_4_203 tw_1_1 mT_X11_force)
theorem dL_law_1288 : decode cL_law 1288 = .ok (.invokevirtual 122, 3) := dk_2 (dk_k182 1288) (dk_by (j := 8) rfl ck_L_law_80_31law2 rfl rfl rfl) (dk_by (j := 9) rfl ck_L_law_80_31law2 rfl rfl rfl) (dk_by (j := 10) rfl ck_L_law_80_31law2 rfl rfl rfl) (by decide)
theorem dL_law_1291 : decode cL_law 1291 = .ok (.pop, 1) := dk_0 (dk_k87 1291) (dk_by (j := 11) rfl ck_L_law_80_31law2 rfl rfl rfl)
theorem dL_law_1292 : decode cL_law 1292 = .ok (.aload_n 2, 1) := dk_0 (dk_k44 1292) (dk_by (j := 12) rfl ck_L_law_80_31law2 rfl rfl rfl)
theorem dL_law_1293 : decode cL_law 1293 = .ok (.aload_n 0, 1) := dk_0 (dk_k42 1293) (dk_by (j := 13) rfl ck_L_law_80_31law2 rfl rfl rfl)
theorem dL_law_1294 : decode cL_law 1294 = .ok (.iload_n 3, 1) := dk_0 (dk_k29 1294) (dk_by (j := 14) rfl ck_L_law_80_31law2 rfl rfl rfl)
theorem dL_law_1295 : decode cL_law 1295 = .ok (.iconst 1, 1) := dk_0 (dk_k4 1295) (dk_by (j := 15) rfl ck_L_law_80_31law2 rfl rfl rfl)
theorem dL_law_1296 : decode cL_law 1296 = .ok (.iadd, 1) := dk_0 (dk_k96 1296) (dk_by (j := 0) rfl ck_L_law_81_31law2 rfl rfl rfl)
theorem dL_law_1297 : decode cL_law 1297 = .ok (.iaload, 1) := dk_0 (dk_k46 1297) (dk_by (j := 1) rfl ck_L_law_81_31law2 rfl rfl rfl)
theorem gL_law_X12_force : GoodIn lw_tbl (wsV RL 125 RX12 yX12_force wsX12_force) := ru_gL (ru_gV tw_7_146 tw_7_147 tw_7_148 tw_1_12 mT_X12_force)
theorem dL_law_1298 : decode cL_law 1298 = .ok (.invokevirtual 125, 3) := dk_2 (dk_k182 1298) (dk_by (j := 2) rfl ck_L_law_81_31law2 rfl rfl rfl) (dk_by (j := 3) rfl ck_L_law_81_31law2 rfl rfl rfl) (dk_by (j := 4) rfl ck_L_law_81_31law2 rfl rfl rfl) (by decide)
theorem dL_law_1301 : decode cL_law 1301 = .ok (.pop, 1) := dk_0 (dk_k87 1301) (dk_by (j := 5) rfl ck_L_law_81_31law2 rfl rfl rfl)
theorem dL_law_1302 : decode cL_law 1302 = .ok (.goto 532, 3) := dk_s (dk_k167 1302) (dk_by (j := 6) rfl ck_L_law_81_31law2 rfl rfl rfl) (dk_by (j := 7) rfl ck_L_law_81_31law2 rfl rfl rfl) (dk_by (j := 8) rfl ck_L_law_81_31law2 rfl rfl rfl) (by decide)
theorem dL_law_1305 : decode cL_law 1305 = .ok (.aload_n 1, 1) := dk_0 (dk_k43 1305) (dk_by (j := 9) rfl ck_L_law_81_31law2 rfl rfl rfl)
theorem dL_law_1306 : decode cL_law 1306 = .ok (.aload_n 0, 1) := dk_0 (dk_k42 1306) (dk_by (j := 10) rfl ck_L_law_81_31law2 rfl rfl rfl)
theorem dL_law_1307 : decode cL_law 1307 = .ok (.iload_n 3, 1) := dk_0 (dk_k29 1307) (dk_by (j := 11) rfl ck_L_law_81_31law2 rfl rfl rfl)
theorem dL_law_1308 : decode cL_law 1308 = .ok (.iconst 1, 1) := dk_0 (dk_k4 1308) (dk_by (j := 12) rfl ck_L_law_81_31law2 rfl rfl rfl)
theorem dL_law_1309 : decode cL_law 1309 = .ok (.iadd, 1) := dk_0 (dk_k96 1309) (dk_by (j := 13) rfl ck_L_law_81_31law2 rfl rfl rfl)
theorem dL_law_1310 : decode cL_law 1310 = .ok (.iaload, 1) := dk_0 (dk_k46 1310) (dk_by (j := 14) rfl ck_L_law_81_31law2 rfl rfl rfl)
theorem dL_law_1311 : decode cL_law 1311 = .ok (.aload_n 0, 1) := dk_0 (dk_k42 1311) (dk_by (j := 15) rfl ck_L_law_81_31law2 rfl rfl rfl)
theorem dL_law_1312 : decode cL_law 1312 = .ok (.iload_n 3, 1) := dk_0 (dk_k29 1312) (dk_by (j := 0) rfl ck_L_law_82_31law2 rfl rfl rfl)
theorem dL_law_1313 : decode cL_law 1313 = .ok (.iconst 2, 1) := dk_0 (dk_k5 1313) (dk_by (j := 1) rfl ck_L_law_82_31law2 rfl rfl rfl)
theorem dL_law_1314 : decode cL_law 1314 = .ok (.iadd, 1) := dk_0 (dk_k96 1314) (dk_by (j := 2) rfl ck_L_law_82_31law2 rfl rfl rfl)
theorem dL_law_1315 : decode cL_law 1315 = .ok (.iaload, 1) := dk_0 (dk_k46 1315) (dk_by (j := 3) rfl ck_L_law_82_31law2 rfl rfl rfl)
theorem dL_law_1316 : decode cL_law 1316 = .ok (.aload_n 0, 1) := dk_0 (dk_k42 1316) (dk_by (j := 4) rfl ck_L_law_82_31law2 rfl rfl rfl)
theorem dL_law_1317 : decode cL_law 1317 = .ok (.iload_n 3, 1) := dk_0 (dk_k29 1317) (dk_by (j := 5) rfl ck_L_law_82_31law2 rfl rfl rfl)
theorem dL_law_1318 : decode cL_law 1318 = .ok (.iconst 3, 1) := dk_0 (dk_k6 1318) (dk_by (j := 6) rfl ck_L_law_82_31law2 rfl rfl rfl)
theorem dL_law_1319 : decode cL_law 1319 = .ok (.iadd, 1) := dk_0 (dk_k96 1319) (dk_by (j := 7) rfl ck_L_law_82_31law2 rfl rfl rfl)
theorem dL_law_1320 : decode cL_law 1320 = .ok (.iaload, 1) := dk_0 (dk_k46 1320) (dk_by (j := 8) rfl ck_L_law_82_31law2 rfl rfl rfl)
theorem gL_law_X11_says : GoodIn lw_tbl (wsV RL 126 RX11 yX11_says wsX11_says) := ru_gL (ru_gV tw_4_205 tw_4_206 tw_4_207 tw_1_1 mT_X11_says)
theorem dL_law_1321 : decode cL_law 1321 = .ok (.invokevirtual 126, 3) := dk_2 (dk_k182 1321) (dk_by (j := 9) rfl ck_L_law_82_31law2 rfl rfl rfl) (dk_by (j := 10) rfl ck_L_law_82_31law2 rfl rfl rfl) (dk_by (j := 11) rfl ck_L_law_82_31law2 rfl rfl rfl) (by decide)
theorem dL_law_1324 : decode cL_law 1324 = .ok (.pop2, 1) := dk_0 (dk_k88 1324) (dk_by (j := 12) rfl ck_L_law_82_31law2 rfl rfl rfl)
theorem dL_law_1325 : decode cL_law 1325 = .ok (.aload_n 2, 1) := dk_0 (dk_k44 1325) (dk_by (j := 13) rfl ck_L_law_82_31law2 rfl rfl rfl)
theorem dL_law_1326 : decode cL_law 1326 = .ok (.aload_n 0, 1) := dk_0 (dk_k42 1326) (dk_by (j := 14) rfl ck_L_law_82_31law2 rfl rfl rfl)
theorem dL_law_1327 : decode cL_law 1327 = .ok (.iload_n 3, 1) := dk_0 (dk_k29 1327) (dk_by (j := 15) rfl ck_L_law_82_31law2 rfl rfl rfl)
theorem dL_law_1328 : decode cL_law 1328 = .ok (.iconst 1, 1) := dk_0 (dk_k4 1328) (dk_by (j := 0) rfl ck_L_law_83_31law2 rfl rfl rfl)
theorem dL_law_1329 : decode cL_law 1329 = .ok (.iadd, 1) := dk_0 (dk_k96 1329) (dk_by (j := 1) rfl ck_L_law_83_31law2 rfl rfl rfl)
theorem dL_law_1330 : decode cL_law 1330 = .ok (.iaload, 1) := dk_0 (dk_k46 1330) (dk_by (j := 2) rfl ck_L_law_83_31law2 rfl rfl rfl)
theorem dL_law_1331 : decode cL_law 1331 = .ok (.aload_n 0, 1) := dk_0 (dk_k42 1331) (dk_by (j := 3) rfl ck_L_law_83_31law2 rfl rfl rfl)
theorem dL_law_1332 : decode cL_law 1332 = .ok (.iload_n 3, 1) := dk_0 (dk_k29 1332) (dk_by (j := 4) rfl ck_L_law_83_31law2 rfl rfl rfl)
theorem dL_law_1333 : decode cL_law 1333 = .ok (.iconst 2, 1) := dk_0 (dk_k5 1333) (dk_by (j := 5) rfl ck_L_law_83_31law2 rfl rfl rfl)
theorem dL_law_1334 : decode cL_law 1334 = .ok (.iadd, 1) := dk_0 (dk_k96 1334) (dk_by (j := 6) rfl ck_L_law_83_31law2 rfl rfl rfl)
theorem dL_law_1335 : decode cL_law 1335 = .ok (.iaload, 1) := dk_0 (dk_k46 1335) (dk_by (j := 7) rfl ck_L_law_83_31law2 rfl rfl rfl)
theorem dL_law_1336 : decode cL_law 1336 = .ok (.aload_n 0, 1) := dk_0 (dk_k42 1336) (dk_by (j := 8) rfl ck_L_law_83_31law2 rfl rfl rfl)
theorem dL_law_1337 : decode cL_law 1337 = .ok (.iload_n 3, 1) := dk_0 (dk_k29 1337) (dk_by (j := 9) rfl ck_L_law_83_31law2 rfl rfl rfl)
theorem dL_law_1338 : decode cL_law 1338 = .ok (.iconst 3, 1) := dk_0 (dk_k6 1338) (dk_by (j := 10) rfl ck_L_law_83_31law2 rfl rfl rfl)
theorem dL_law_1339 : decode cL_law 1339 = .ok (.iadd, 1) := dk_0 (dk_k96 1339) (dk_by (j := 11) rfl ck_L_law_83_31law2 rfl rfl rfl)
theorem dL_law_1340 : decode cL_law 1340 = .ok (.iaload, 1) := dk_0 (dk_k46 1340) (dk_by (j := 12) rfl ck_L_law_83_31law2 rfl rfl rfl)
theorem gL_law_X12_says : GoodIn lw_tbl (wsV RL 129 RX12 yX12_says wsX12_says) := ru_gL (ru_gV tw_7_150 tw_7_151 tw_7_152 tw_1_12 mT_X12_says)
theorem dL_law_1341 : decode cL_law 1341 = .ok (.invokevirtual 129, 3) := dk_2 (dk_k182 1341) (dk_by (j := 13) rfl ck_L_law_83_31law2 rfl rfl rfl) (dk_by (j := 14) rfl ck_L_law_83_31law2 rfl rfl rfl) (dk_by (j := 15) rfl ck_L_law_83_31law2 rfl rfl rfl) (by decide)
theorem dL_law_1344 : decode cL_law 1344 = .ok (.pop2, 1) := dk_0 (dk_k88 1344) (dk_by (j := 0) rfl ck_L_law_84_31law2 rfl rfl rfl)
theorem dL_law_1345 : decode cL_law 1345 = .ok (.goto 489, 3) := dk_s (dk_k167 1345) (dk_by (j := 1) rfl ck_L_law_84_31law2 rfl rfl rfl) (dk_by (j := 2) rfl ck_L_law_84_31law2 rfl rfl rfl) (dk_by (j := 3) rfl ck_L_law_84_31law2 rfl rfl rfl) (by decide)
theorem dL_law_1348 : decode cL_law 1348 = .ok (.aload_n 1, 1) := dk_0 (dk_k43 1348) (dk_by (j := 4) rfl ck_L_law_84_31law2 rfl rfl rfl)
theorem dL_law_1349 : decode cL_law 1349 = .ok (.aload_n 0, 1) := dk_0 (dk_k42 1349) (dk_by (j := 5) rfl ck_L_law_84_31law2 rfl rfl rfl)
theorem dL_law_1350 : decode cL_law 1350 = .ok (.iload_n 3, 1) := dk_0 (dk_k29 1350) (dk_by (j := 6) rfl ck_L_law_84_31law2 rfl rfl rfl)
theorem dL_law_1351 : decode cL_law 1351 = .ok (.iconst 1, 1) := dk_0 (dk_k4 1351) (dk_by (j := 7) rfl ck_L_law_84_31law2 rfl rfl rfl)
theorem dL_law_1352 : decode cL_law 1352 = .ok (.iadd, 1) := dk_0 (dk_k96 1352) (dk_by (j := 8) rfl ck_L_law_84_31law2 rfl rfl rfl)
theorem dL_law_1353 : decode cL_law 1353 = .ok (.iaload, 1) := dk_0 (dk_k46 1353) (dk_by (j := 9) rfl ck_L_law_84_31law2 rfl rfl rfl)
theorem dL_law_1354 : decode cL_law 1354 = .ok (.aload_n 0, 1) := dk_0 (dk_k42 1354) (dk_by (j := 10) rfl ck_L_law_84_31law2 rfl rfl rfl)
theorem dL_law_1355 : decode cL_law 1355 = .ok (.iload_n 3, 1) := dk_0 (dk_k29 1355) (dk_by (j := 11) rfl ck_L_law_84_31law2 rfl rfl rfl)
theorem dL_law_1356 : decode cL_law 1356 = .ok (.iconst 2, 1) := dk_0 (dk_k5 1356) (dk_by (j := 12) rfl ck_L_law_84_31law2 rfl rfl rfl)
theorem dL_law_1357 : decode cL_law 1357 = .ok (.iadd, 1) := dk_0 (dk_k96 1357) (dk_by (j := 13) rfl ck_L_law_84_31law2 rfl rfl rfl)
theorem dL_law_1358 : decode cL_law 1358 = .ok (.iaload, 1) := dk_0 (dk_k46 1358) (dk_by (j := 14) rfl ck_L_law_84_31law2 rfl rfl rfl)
theorem gL_law_X11_first : GoodIn lw_tbl (wsV RL 130 RX11 yX11_first wsX11_first) := ru_gL (ru_gV tw_4_238 tw_4_239 tw_5_0 tw_1_1 mT_X11_first)
theorem dL_law_1359 : decode cL_law 1359 = .ok (.invokevirtual 130, 3) := dk_2 (dk_k182 1359) (dk_by (j := 15) rfl ck_L_law_84_31law2 rfl rfl rfl) (dk_by (j := 0) rfl ck_L_law_85_31law2 rfl rfl rfl) (dk_by (j := 1) rfl ck_L_law_85_31law2 rfl rfl rfl) (by decide)
theorem dL_law_1362 : decode cL_law 1362 = .ok (.pop, 1) := dk_0 (dk_k87 1362) (dk_by (j := 2) rfl ck_L_law_85_31law2 rfl rfl rfl)
theorem dL_law_1363 : decode cL_law 1363 = .ok (.aload_n 2, 1) := dk_0 (dk_k44 1363) (dk_by (j := 3) rfl ck_L_law_85_31law2 rfl rfl rfl)
theorem dL_law_1364 : decode cL_law 1364 = .ok (.aload_n 0, 1) := dk_0 (dk_k42 1364) (dk_by (j := 4) rfl ck_L_law_85_31law2 rfl rfl rfl)
theorem dL_law_1365 : decode cL_law 1365 = .ok (.iload_n 3, 1) := dk_0 (dk_k29 1365) (dk_by (j := 5) rfl ck_L_law_85_31law2 rfl rfl rfl)
theorem dL_law_1366 : decode cL_law 1366 = .ok (.iconst 1, 1) := dk_0 (dk_k4 1366) (dk_by (j := 6) rfl ck_L_law_85_31law2 rfl rfl rfl)
theorem dL_law_1367 : decode cL_law 1367 = .ok (.iadd, 1) := dk_0 (dk_k96 1367) (dk_by (j := 7) rfl ck_L_law_85_31law2 rfl rfl rfl)
theorem dL_law_1368 : decode cL_law 1368 = .ok (.iaload, 1) := dk_0 (dk_k46 1368) (dk_by (j := 8) rfl ck_L_law_85_31law2 rfl rfl rfl)
theorem dL_law_1369 : decode cL_law 1369 = .ok (.aload_n 0, 1) := dk_0 (dk_k42 1369) (dk_by (j := 9) rfl ck_L_law_85_31law2 rfl rfl rfl)
theorem dL_law_1370 : decode cL_law 1370 = .ok (.iload_n 3, 1) := dk_0 (dk_k29 1370) (dk_by (j := 10) rfl ck_L_law_85_31law2 rfl rfl rfl)
theorem dL_law_1371 : decode cL_law 1371 = .ok (.iconst 2, 1) := dk_0 (dk_k5 1371) (dk_by (j := 11) rfl ck_L_law_85_31law2 rfl rfl rfl)
theorem dL_law_1372 : decode cL_law 1372 = .ok (.iadd, 1) := dk_0 (dk_k96 1372) (dk_by (j := 12) rfl ck_L_law_85_31law2 rfl rfl rfl)
theorem dL_law_1373 : decode cL_law 1373 = .ok (.iaload, 1) := dk_0 (dk_k46 1373) (dk_by (j := 13) rfl ck_L_law_85_31law2 rfl rfl rfl)
theorem gL_law_X12_first : GoodIn lw_tbl (wsV RL 133 RX12 yX12_first wsX12_first) := ru_gL (ru_gV tw_7_162 tw_7_163 tw_7_164 tw_1_12 mT_X12_first)
theorem dL_law_1374 : decode cL_law 1374 = .ok (.invokevirtual 133, 3) := dk_2 (dk_k182 1374) (dk_by (j := 14) rfl ck_L_law_85_31law2 rfl rfl rfl) (dk_by (j := 15) rfl ck_L_law_85_31law2 rfl rfl rfl) (dk_by (j := 0) rfl ck_L_law_86_31law2 rfl rfl rfl) (by decide)
theorem dL_law_1377 : decode cL_law 1377 = .ok (.pop, 1) := dk_0 (dk_k87 1377) (dk_by (j := 1) rfl ck_L_law_86_31law2 rfl rfl rfl)
theorem dL_law_1378 : decode cL_law 1378 = .ok (.goto 456, 3) := dk_s (dk_k167 1378) (dk_by (j := 2) rfl ck_L_law_86_31law2 rfl rfl rfl) (dk_by (j := 3) rfl ck_L_law_86_31law2 rfl rfl rfl) (dk_by (j := 4) rfl ck_L_law_86_31law2 rfl rfl rfl) (by decide)
theorem dL_law_1381 : decode cL_law 1381 = .ok (.aload_n 1, 1) := dk_0 (dk_k43 1381) (dk_by (j := 5) rfl ck_L_law_86_31law2 rfl rfl rfl)
theorem dL_law_1382 : decode cL_law 1382 = .ok (.aload_n 0, 1) := dk_0 (dk_k42 1382) (dk_by (j := 6) rfl ck_L_law_86_31law2 rfl rfl rfl)
theorem dL_law_1383 : decode cL_law 1383 = .ok (.iload_n 3, 1) := dk_0 (dk_k29 1383) (dk_by (j := 7) rfl ck_L_law_86_31law2 rfl rfl rfl)
theorem dL_law_1384 : decode cL_law 1384 = .ok (.iconst 1, 1) := dk_0 (dk_k4 1384) (dk_by (j := 8) rfl ck_L_law_86_31law2 rfl rfl rfl)
theorem dL_law_1385 : decode cL_law 1385 = .ok (.iadd, 1) := dk_0 (dk_k96 1385) (dk_by (j := 9) rfl ck_L_law_86_31law2 rfl rfl rfl)
theorem dL_law_1386 : decode cL_law 1386 = .ok (.iaload, 1) := dk_0 (dk_k46 1386) (dk_by (j := 10) rfl ck_L_law_86_31law2 rfl rfl rfl)
theorem dL_law_1387 : decode cL_law 1387 = .ok (.aload_n 0, 1) := dk_0 (dk_k42 1387) (dk_by (j := 11) rfl ck_L_law_86_31law2 rfl rfl rfl)
theorem dL_law_1388 : decode cL_law 1388 = .ok (.iload_n 3, 1) := dk_0 (dk_k29 1388) (dk_by (j := 12) rfl ck_L_law_86_31law2 rfl rfl rfl)
theorem dL_law_1389 : decode cL_law 1389 = .ok (.iconst 2, 1) := dk_0 (dk_k5 1389) (dk_by (j := 13) rfl ck_L_law_86_31law2 rfl rfl rfl)
theorem dL_law_1390 : decode cL_law 1390 = .ok (.iadd, 1) := dk_0 (dk_k96 1390) (dk_by (j := 14) rfl ck_L_law_86_31law2 rfl rfl rfl)
theorem dL_law_1391 : decode cL_law 1391 = .ok (.iaload, 1) := dk_0 (dk_k46 1391) (dk_by (j := 15) rfl ck_L_law_86_31law2 rfl rfl rfl)
theorem dL_law_1392 : decode cL_law 1392 = .ok (.aload_n 0, 1) := dk_0 (dk_k42 1392) (dk_by (j := 0) rfl ck_L_law_87_31law2 rfl rfl rfl)
theorem dL_law_1393 : decode cL_law 1393 = .ok (.iload_n 3, 1) := dk_0 (dk_k29 1393) (dk_by (j := 1) rfl ck_L_law_87_31law2 rfl rfl rfl)
theorem dL_law_1394 : decode cL_law 1394 = .ok (.iconst 3, 1) := dk_0 (dk_k6 1394) (dk_by (j := 2) rfl ck_L_law_87_31law2 rfl rfl rfl)
theorem dL_law_1395 : decode cL_law 1395 = .ok (.iadd, 1) := dk_0 (dk_k96 1395) (dk_by (j := 3) rfl ck_L_law_87_31law2 rfl rfl rfl)
theorem dL_law_1396 : decode cL_law 1396 = .ok (.iaload, 1) := dk_0 (dk_k46 1396) (dk_by (j := 4) rfl ck_L_law_87_31law2 rfl rfl rfl)
theorem gL_law_X11_story : GoodIn lw_tbl (wsV RL 134 RX11 yX11_story wsX11_story) := ru_gL (ru_gV tw_5_10 tw_5_11 tw_5_12 tw_1_1 mT_X11_story)
theorem dL_law_1397 : decode cL_law 1397 = .ok (.invokevirtual 134, 3) := dk_2 (dk_k182 1397) (dk_by (j := 5) rfl ck_L_law_87_31law2 rfl rfl rfl) (dk_by (j := 6) rfl ck_L_law_87_31law2 rfl rfl rfl) (dk_by (j := 7) rfl ck_L_law_87_31law2 rfl rfl rfl) (by decide)
theorem dL_law_1400 : decode cL_law 1400 = .ok (.pop, 1) := dk_0 (dk_k87 1400) (dk_by (j := 8) rfl ck_L_law_87_31law2 rfl rfl rfl)
theorem dL_law_1401 : decode cL_law 1401 = .ok (.aload_n 2, 1) := dk_0 (dk_k44 1401) (dk_by (j := 9) rfl ck_L_law_87_31law2 rfl rfl rfl)
theorem dL_law_1402 : decode cL_law 1402 = .ok (.aload_n 0, 1) := dk_0 (dk_k42 1402) (dk_by (j := 10) rfl ck_L_law_87_31law2 rfl rfl rfl)
theorem dL_law_1403 : decode cL_law 1403 = .ok (.iload_n 3, 1) := dk_0 (dk_k29 1403) (dk_by (j := 11) rfl ck_L_law_87_31law2 rfl rfl rfl)
theorem dL_law_1404 : decode cL_law 1404 = .ok (.iconst 1, 1) := dk_0 (dk_k4 1404) (dk_by (j := 12) rfl ck_L_law_87_31law2 rfl rfl rfl)
theorem dL_law_1405 : decode cL_law 1405 = .ok (.iadd, 1) := dk_0 (dk_k96 1405) (dk_by (j := 13) rfl ck_L_law_87_31law2 rfl rfl rfl)
theorem dL_law_1406 : decode cL_law 1406 = .ok (.iaload, 1) := dk_0 (dk_k46 1406) (dk_by (j := 14) rfl ck_L_law_87_31law2 rfl rfl rfl)
theorem dL_law_1407 : decode cL_law 1407 = .ok (.aload_n 0, 1) := dk_0 (dk_k42 1407) (dk_by (j := 15) rfl ck_L_law_87_31law2 rfl rfl rfl)
theorem dL_law_1408 : decode cL_law 1408 = .ok (.iload_n 3, 1) := dk_0 (dk_k29 1408) (dk_by (j := 0) rfl ck_L_law_88_31law2 rfl rfl rfl)
theorem dL_law_1409 : decode cL_law 1409 = .ok (.iconst 2, 1) := dk_0 (dk_k5 1409) (dk_by (j := 1) rfl ck_L_law_88_31law2 rfl rfl rfl)
theorem dL_law_1410 : decode cL_law 1410 = .ok (.iadd, 1) := dk_0 (dk_k96 1410) (dk_by (j := 2) rfl ck_L_law_88_31law2 rfl rfl rfl)
theorem dL_law_1411 : decode cL_law 1411 = .ok (.iaload, 1) := dk_0 (dk_k46 1411) (dk_by (j := 3) rfl ck_L_law_88_31law2 rfl rfl rfl)
theorem dL_law_1412 : decode cL_law 1412 = .ok (.aload_n 0, 1) := dk_0 (dk_k42 1412) (dk_by (j := 4) rfl ck_L_law_88_31law2 rfl rfl rfl)
theorem dL_law_1413 : decode cL_law 1413 = .ok (.iload_n 3, 1) := dk_0 (dk_k29 1413) (dk_by (j := 5) rfl ck_L_law_88_31law2 rfl rfl rfl)
theorem dL_law_1414 : decode cL_law 1414 = .ok (.iconst 3, 1) := dk_0 (dk_k6 1414) (dk_by (j := 6) rfl ck_L_law_88_31law2 rfl rfl rfl)
theorem dL_law_1415 : decode cL_law 1415 = .ok (.iadd, 1) := dk_0 (dk_k96 1415) (dk_by (j := 7) rfl ck_L_law_88_31law2 rfl rfl rfl)
theorem dL_law_1416 : decode cL_law 1416 = .ok (.iaload, 1) := dk_0 (dk_k46 1416) (dk_by (j := 8) rfl ck_L_law_88_31law2 rfl rfl rfl)
theorem gL_law_X12_story : GoodIn lw_tbl (wsV RL 137 RX12 yX12_story wsX12_story) := ru_gL (ru_gV tw_7_166 tw_7_167 tw_7_168 tw_1_12 mT_X12_story)
theorem dL_law_1417 : decode cL_law 1417 = .ok (.invokevirtual 137, 3) := dk_2 (dk_k182 1417) (dk_by (j := 9) rfl ck_L_law_88_31law2 rfl rfl rfl) (dk_by (j := 10) rfl ck_L_law_88_31law2 rfl rfl rfl) (dk_by (j := 11) rfl ck_L_law_88_31law2 rfl rfl rfl) (by decide)
theorem dL_law_1420 : decode cL_law 1420 = .ok (.pop, 1) := dk_0 (dk_k87 1420) (dk_by (j := 12) rfl ck_L_law_88_31law2 rfl rfl rfl)
theorem dL_law_1421 : decode cL_law 1421 = .ok (.goto 413, 3) := dk_s (dk_k167 1421) (dk_by (j := 13) rfl ck_L_law_88_31law2 rfl rfl rfl) (dk_by (j := 14) rfl ck_L_law_88_31law2 rfl rfl rfl) (dk_by (j := 15) rfl ck_L_law_88_31law2 rfl rfl rfl) (by decide)
theorem dL_law_1424 : decode cL_law 1424 = .ok (.aload_n 1, 1) := dk_0 (dk_k43 1424) (dk_by (j := 0) rfl ck_L_law_89_31law2 rfl rfl rfl)
theorem gL_law_X11_unfit : GoodIn lw_tbl (wsV RL 138 RX11 yX11_unfit wsX11_unfit) := ru_gL (ru_gV tw_5_18 tw_5_19 tw_5_20 tw_1_1 mT_X11_unfit)
theorem dL_law_1425 : decode cL_law 1425 = .ok (.invokevirtual 138, 3) := dk_2 (dk_k182 1425) (dk_by (j := 1) rfl ck_L_law_89_31law2 rfl rfl rfl) (dk_by (j := 2) rfl ck_L_law_89_31law2 rfl rfl rfl) (dk_by (j := 3) rfl ck_L_law_89_31law2 rfl rfl rfl) (by decide)
theorem dL_law_1428 : decode cL_law 1428 = .ok (.pop, 1) := dk_0 (dk_k87 1428) (dk_by (j := 4) rfl ck_L_law_89_31law2 rfl rfl rfl)
theorem dL_law_1429 : decode cL_law 1429 = .ok (.aload_n 2, 1) := dk_0 (dk_k44 1429) (dk_by (j := 5) rfl ck_L_law_89_31law2 rfl rfl rfl)
theorem gL_law_X12_unfit : GoodIn lw_tbl (wsV RL 141 RX12 yX12_unfit wsX12_unfit) := ru_gL (ru_gV tw_7_170 tw_7_171 tw_7_172 tw_1_12 mT_X12_unfit)
theorem dL_law_1430 : decode cL_law 1430 = .ok (.invokevirtual 141, 3) := dk_2 (dk_k182 1430) (dk_by (j := 6) rfl ck_L_law_89_31law2 rfl rfl rfl) (dk_by (j := 7) rfl ck_L_law_89_31law2 rfl rfl rfl) (dk_by (j := 8) rfl ck_L_law_89_31law2 rfl rfl rfl) (by decide)
theorem dL_law_1433 : decode cL_law 1433 = .ok (.pop, 1) := dk_0 (dk_k87 1433) (dk_by (j := 9) rfl ck_L_law_89_31law2 rfl rfl rfl)
theorem dL_law_1434 : decode cL_law 1434 = .ok (.goto 400, 3) := dk_s (dk_k167 1434) (dk_by (j := 10) rfl ck_L_law_89_31law2 rfl rfl rfl) (dk_by (j := 11) rfl ck_L_law_89_31law2 rfl rfl rfl) (dk_by (j := 12) rfl ck_L_law_89_31law2 rfl rfl rfl) (by decide)
set_option maxHeartbeats 1000000 in
set_option maxRecDepth 20000 in
theorem lb_20 {p : Program} {l : Launch} {e : Env} {s : State} {m : MethodId} {below : List Frame} {meth : Method} {c : Code} {D : va_G} {ad : Nat → Nat → Nat} {C : Nat → Nat → ClassId} {nb : Nat} {M : fm_M} {b L : Nat} {xs : Nat → Int32} {H : Heap} {locs : List Loc} {kc sl : Nat} {i : Int32} (C0 : lw_At p s m meth c b L xs) (hkc : kc ≤ 10000) (hsl : sl ≤ 300000) (hc : fm_Cx D ad C nb (fun q : Nat => s.heap.size ≤ q) s) (hw : fm_at D ad C nb M H) (hI : fm_I nb ad M) (hS : va_S (fun q : Nat => s.heap.size ≤ q) s.heap H locs) (hi : 0 ≤ i.toInt ∧ i.toInt + 6 ≤ L) (hL : L ≤ 3072) (hrel : M.1 0 0 10 = M.1 60 0 16 ∧ (∀ j : Nat, j < nb → M.1 50 j 0 = M.1 110 0 j) ∧ (∀ j : Nat, j < nb → M.1 50 j 3 = M.1 113 0 j)) (kk : ∀ (M1 : fm_M) (H1 : Heap) (locs1 : List Loc), fm_at D ad C nb M1 H1 → fm_I nb ad M1 → va_S (fun q : Nat => s.heap.size ≤ q) s.heap H1 locs1 → M1.1 0 0 10 = M1.1 60 0 16 ∧ (∀ j : Nat, j < nb → M1.1 50 j 0 = M1.1 110 0 j) ∧ (∀ j : Nat, j < nb → M1.1 50 j 3 = M1.1 113 0 j) → ∀ ls : Array Slot, lv_has ls 4 [(3, .int i), (2, .ref (ad 60 0)), (1, .ref (ad 0 0)), (0, .ref b)] → W p l e room_1 s m #[Value.ref b] below meth c H1 locs1 kc sl (lw_Z below #[Value.ref b] s) (F0 m 1834 ls [])) (ls : Array Slot) (hl : lv_has ls 4 [(3, .int i), (2, .ref (ad 60 0)), (1, .ref (ad 0 0)), (0, .ref b)]) : W p l e room_1 s m #[Value.ref b] below meth c H locs kc sl (lw_Z below #[Value.ref b] s) (F0 m 1110 ls []) := by
  obtain ⟨hx, hb, hr, hml, hown, hts, hX, hbl, hlocks, hgv⟩ := id C0
  have hown : s.vm.findClass RL = some m.cls := hown
  have hb : c.code = cL_law := hb
  have hbA : ¬ (fun q : Nat => s.heap.size ≤ q) b := Nat.not_le.mpr hbl
  have hk1 : kc + 0 ≤ room_1.cells := by show kc + 0 ≤ 600000; omega
  have hs1 : sl + 0 ≤ room_1.slots := by show sl + 0 ≤ 7302250; omega
  have hI0 := hI
  refine lv_aload_n hx hb dL_law_1110 rfl (lv_at hl 2 rfl) ?_
  refine lv_aload_n hx hb dL_law_1111 rfl (lv_at hl 3 rfl) ?_
  refine lv_iload_n hx hb dL_law_1112 rfl (lv_at hl 0 rfl) ?_
  refine lv_iconst (v := 1) hx hb dL_law_1113 (by decide) ?_
  refine fx_iadd hx hb dL_law_1114 rfl zk_1 (by omega) (fun y1 ey1 ty1 => ?_)
  refine va_sld hx hb hX hbl hbA hS (fm_in (by omega)) dL_law_1115 ?_
  refine lv_topi (fun x2 ex2 => ?_)
  refine lv_aload_n hx hb dL_law_1116 rfl (lv_at hl 3 rfl) ?_
  refine lv_iload_n hx hb dL_law_1117 rfl (lv_at hl 0 rfl) ?_
  refine lv_iconst (v := 2) hx hb dL_law_1118 (by decide) ?_
  refine fx_iadd hx hb dL_law_1119 rfl zk_2 (by omega) (fun y3 ey3 ty3 => ?_)
  refine va_sld hx hb hX hbl hbA hS (fm_in (by omega)) dL_law_1120 ?_
  refine lv_topi (fun x4 ex4 => ?_)
  refine lv_aload_n hx hb dL_law_1121 rfl (lv_at hl 3 rfl) ?_
  refine lv_iload_n hx hb dL_law_1122 rfl (lv_at hl 0 rfl) ?_
  refine lv_iconst (v := 3) hx hb dL_law_1123 (by decide) ?_
  refine fx_iadd hx hb dL_law_1124 rfl zk_3 (by omega) (fun y5 ey5 ty5 => ?_)
  refine va_sld hx hb hX hbl hbA hS (fm_in (by omega)) dL_law_1125 ?_
  refine lv_topi (fun x6 ex6 => ?_)
  refine vp_callSi (va_Run.run (va_runV (As := [.int x2, .int x4, .int x6]) (rest := []) ⟨hx, hb, hml, hown, hts⟩ (fc_X11_last l D ad C nb M hI x2 x4 x6) (cwV 3 hts gL_law_X11_last rfl rfl rfl (by decide +kernel) ⟨Nat.le_of_ble_eq_true rfl, Nat.le_of_ble_eq_true rfl⟩) (fm_preV hc hw hS kl_0 sh_0 rfl) rfl rfl hl.1 rfl (lv_room (Nat.le_of_ble_eq_true rfl)) dL_law_1126 ⟨hk1, hs1⟩)) (fun r7 hr7 => ?_)
  refine lv_pop hx hb dL_law_1129 rfl ?_
  refine lv_aload_n hx hb dL_law_1130 rfl (lv_at hl 1 rfl) ?_
  refine lv_aload_n hx hb dL_law_1131 rfl (lv_at hl 3 rfl) ?_
  refine lv_iload_n hx hb dL_law_1132 rfl (lv_at hl 0 rfl) ?_
  refine lv_iconst (v := 1) hx hb dL_law_1133 (by decide) ?_
  refine fx_iadd hx hb dL_law_1134 rfl zk_1 (by omega) (fun y8 ey8 ty8 => ?_)
  refine va_sld hx hb hX hbl hbA hS (fm_in (by omega)) dL_law_1135 ?_
  refine lv_topi (fun x9 ex9 => ?_)
  have qx9 : x2 = x9 := by rw [ex9, ex2, ey8, ey1]
  clear ex9
  subst qx9
  refine lv_aload_n hx hb dL_law_1136 rfl (lv_at hl 3 rfl) ?_
  refine lv_iload_n hx hb dL_law_1137 rfl (lv_at hl 0 rfl) ?_
  refine lv_iconst (v := 2) hx hb dL_law_1138 (by decide) ?_
  refine fx_iadd hx hb dL_law_1139 rfl zk_2 (by omega) (fun y10 ey10 ty10 => ?_)
  refine va_sld hx hb hX hbl hbA hS (fm_in (by omega)) dL_law_1140 ?_
  refine lv_topi (fun x11 ex11 => ?_)
  have qx11 : x4 = x11 := by rw [ex11, ex4, ey10, ey3]
  clear ex11
  subst qx11
  refine lv_aload_n hx hb dL_law_1141 rfl (lv_at hl 3 rfl) ?_
  refine lv_iload_n hx hb dL_law_1142 rfl (lv_at hl 0 rfl) ?_
  refine lv_iconst (v := 3) hx hb dL_law_1143 (by decide) ?_
  refine fx_iadd hx hb dL_law_1144 rfl zk_3 (by omega) (fun y12 ey12 ty12 => ?_)
  refine va_sld hx hb hX hbl hbA hS (fm_in (by omega)) dL_law_1145 ?_
  refine lv_topi (fun x13 ex13 => ?_)
  have qx13 : x6 = x13 := by rw [ex13, ex6, ey12, ey5]
  clear ex13
  subst qx13
  refine vp_callSi (va_Run.run (va_runV (As := [.int x2, .int x4, .int x6]) (rest := []) ⟨hx, hb, hml, hown, hts⟩ (fc_X12_last l D ad C nb M hI x2 x4 x6) (cwV 3 hts gL_law_X12_last rfl rfl rfl (by decide +kernel) ⟨Nat.le_of_ble_eq_true rfl, Nat.le_of_ble_eq_true rfl⟩) (fm_preV hc hw hS kl_60 sh_60 rfl) rfl rfl hl.1 rfl (lv_room (Nat.le_of_ble_eq_true rfl)) dL_law_1146 ⟨hk1, hs1⟩)) (fun r14 hr14 => ?_)
  refine lv_pop hx hb dL_law_1149 rfl ?_
  refine lv_goto (tgt := 1834) hx hb dL_law_1150 (by decide) ?_
  have hr90 : M.1 0 0 10 = M.1 60 0 16 := hrel.1
  have hr91 : (∀ j : Nat, j < nb → M.1 50 j 0 = M.1 110 0 j) := fun j hj => by exact hrel.2.1 j hj
  have hr92 : (∀ j : Nat, j < nb → M.1 50 j 3 = M.1 113 0 j) := fun j hj => by exact hrel.2.2 j hj
  have hrel9 : M.1 0 0 10 = M.1 60 0 16 ∧ (∀ j : Nat, j < nb → M.1 50 j 0 = M.1 110 0 j) ∧ (∀ j : Nat, j < nb → M.1 50 j 3 = M.1 113 0 j) := ⟨hr90, hr91, hr92⟩
  exact kk M _ _ hw hI hS hrel9 ls (lv_sub hl [0, 1, 2, 3] rfl)
set_option maxHeartbeats 1000000 in
set_option maxRecDepth 20000 in
theorem lb_21 {p : Program} {l : Launch} {e : Env} {s : State} {m : MethodId} {below : List Frame} {meth : Method} {c : Code} {D : va_G} {ad : Nat → Nat → Nat} {C : Nat → Nat → ClassId} {nb : Nat} {M : fm_M} {b L : Nat} {xs : Nat → Int32} {H : Heap} {locs : List Loc} {kc sl : Nat} {i : Int32} (C0 : lw_At p s m meth c b L xs) (hkc : kc ≤ 10000) (hsl : sl ≤ 300000) (hc : fm_Cx D ad C nb (fun q : Nat => s.heap.size ≤ q) s) (hw : fm_at D ad C nb M H) (hI : fm_I nb ad M) (hS : va_S (fun q : Nat => s.heap.size ≤ q) s.heap H locs) (hi : 0 ≤ i.toInt ∧ i.toInt + 6 ≤ L) (hL : L ≤ 3072) (hrel : M.1 0 0 10 = M.1 60 0 16 ∧ (∀ j : Nat, j < nb → M.1 50 j 0 = M.1 110 0 j) ∧ (∀ j : Nat, j < nb → M.1 50 j 3 = M.1 113 0 j)) (kk : ∀ (M1 : fm_M) (H1 : Heap) (locs1 : List Loc), fm_at D ad C nb M1 H1 → fm_I nb ad M1 → va_S (fun q : Nat => s.heap.size ≤ q) s.heap H1 locs1 → M1.1 0 0 10 = M1.1 60 0 16 ∧ (∀ j : Nat, j < nb → M1.1 50 j 0 = M1.1 110 0 j) ∧ (∀ j : Nat, j < nb → M1.1 50 j 3 = M1.1 113 0 j) → ∀ ls : Array Slot, lv_has ls 4 [(3, .int i), (2, .ref (ad 60 0)), (1, .ref (ad 0 0)), (0, .ref b)] → W p l e room_1 s m #[Value.ref b] below meth c H1 locs1 kc sl (lw_Z below #[Value.ref b] s) (F0 m 1834 ls [])) (ls : Array Slot) (hl : lv_has ls 4 [(3, .int i), (2, .ref (ad 60 0)), (1, .ref (ad 0 0)), (0, .ref b)]) : W p l e room_1 s m #[Value.ref b] below meth c H locs kc sl (lw_Z below #[Value.ref b] s) (F0 m 1153 ls []) := by
  obtain ⟨hx, hb, hr, hml, hown, hts, hX, hbl, hlocks, hgv⟩ := id C0
  have hown : s.vm.findClass RL = some m.cls := hown
  have hb : c.code = cL_law := hb
  have hbA : ¬ (fun q : Nat => s.heap.size ≤ q) b := Nat.not_le.mpr hbl
  have hk1 : kc + 0 ≤ room_1.cells := by show kc + 0 ≤ 600000; omega
  have hs1 : sl + 0 ≤ room_1.slots := by show sl + 0 ≤ 7302250; omega
  have hI0 := hI
  refine lv_aload_n hx hb dL_law_1153 rfl (lv_at hl 2 rfl) ?_
  refine lv_aload_n hx hb dL_law_1154 rfl (lv_at hl 3 rfl) ?_
  refine lv_iload_n hx hb dL_law_1155 rfl (lv_at hl 0 rfl) ?_
  refine lv_iconst (v := 1) hx hb dL_law_1156 (by decide) ?_
  refine fx_iadd hx hb dL_law_1157 rfl zk_1 (by omega) (fun y1 ey1 ty1 => ?_)
  refine va_sld hx hb hX hbl hbA hS (fm_in (by omega)) dL_law_1158 ?_
  refine lv_topi (fun x2 ex2 => ?_)
  refine lv_aload_n hx hb dL_law_1159 rfl (lv_at hl 3 rfl) ?_
  refine lv_iload_n hx hb dL_law_1160 rfl (lv_at hl 0 rfl) ?_
  refine lv_iconst (v := 2) hx hb dL_law_1161 (by decide) ?_
  refine fx_iadd hx hb dL_law_1162 rfl zk_2 (by omega) (fun y3 ey3 ty3 => ?_)
  refine va_sld hx hb hX hbl hbA hS (fm_in (by omega)) dL_law_1163 ?_
  refine lv_topi (fun x4 ex4 => ?_)
  refine lv_aload_n hx hb dL_law_1164 rfl (lv_at hl 3 rfl) ?_
  refine lv_iload_n hx hb dL_law_1165 rfl (lv_at hl 0 rfl) ?_
  refine lv_iconst (v := 3) hx hb dL_law_1166 (by decide) ?_
  refine fx_iadd hx hb dL_law_1167 rfl zk_3 (by omega) (fun y5 ey5 ty5 => ?_)
  refine va_sld hx hb hX hbl hbA hS (fm_in (by omega)) dL_law_1168 ?_
  refine lv_topi (fun x6 ex6 => ?_)
  refine lv_aload_n hx hb dL_law_1169 rfl (lv_at hl 3 rfl) ?_
  refine lv_iload_n hx hb dL_law_1170 rfl (lv_at hl 0 rfl) ?_
  refine lv_iconst (v := 4) hx hb dL_law_1171 (by decide) ?_
  refine fx_iadd hx hb dL_law_1172 rfl zk_4 (by omega) (fun y7 ey7 ty7 => ?_)
  refine va_sld hx hb hX hbl hbA hS (fm_in (by omega)) dL_law_1173 ?_
  refine lv_topi (fun x8 ex8 => ?_)
  refine fm_ci (va_runV (As := [.int x2, .int x4, .int x6, .int x8]) (rest := []) ⟨hx, hb, hml, hown, hts⟩ (fc_X11_man l D ad C nb M hI x2 x4 x6 x8) (cwV 4 hts gL_law_X11_man rfl rfl rfl (by decide +kernel) ⟨Nat.le_of_ble_eq_true rfl, Nat.le_of_ble_eq_true rfl⟩) (fm_preV hc hw hS kl_0 sh_0 rfl) rfl rfl hl.1 rfl (lv_room (Nat.le_of_ble_eq_true rfl)) dL_law_1174 ⟨hk1, hs1⟩) hS hc (fun r9 M10 H locs hr9 hw hS => ?_)
  obtain ⟨hI, hEM10, hr9⟩ := hr9
  refine lv_pop hx hb dL_law_1177 rfl ?_
  refine lv_aload_n hx hb dL_law_1178 rfl (lv_at hl 1 rfl) ?_
  refine lv_aload_n hx hb dL_law_1179 rfl (lv_at hl 3 rfl) ?_
  refine lv_iload_n hx hb dL_law_1180 rfl (lv_at hl 0 rfl) ?_
  refine lv_iconst (v := 1) hx hb dL_law_1181 (by decide) ?_
  refine fx_iadd hx hb dL_law_1182 rfl zk_1 (by omega) (fun y11 ey11 ty11 => ?_)
  refine va_sld hx hb hX hbl hbA hS (fm_in (by omega)) dL_law_1183 ?_
  refine lv_topi (fun x12 ex12 => ?_)
  have qx12 : x2 = x12 := by rw [ex12, ex2, ey11, ey1]
  clear ex12
  subst qx12
  refine lv_aload_n hx hb dL_law_1184 rfl (lv_at hl 3 rfl) ?_
  refine lv_iload_n hx hb dL_law_1185 rfl (lv_at hl 0 rfl) ?_
  refine lv_iconst (v := 2) hx hb dL_law_1186 (by decide) ?_
  refine fx_iadd hx hb dL_law_1187 rfl zk_2 (by omega) (fun y13 ey13 ty13 => ?_)
  refine va_sld hx hb hX hbl hbA hS (fm_in (by omega)) dL_law_1188 ?_
  refine lv_topi (fun x14 ex14 => ?_)
  have qx14 : x4 = x14 := by rw [ex14, ex4, ey13, ey3]
  clear ex14
  subst qx14
  refine lv_aload_n hx hb dL_law_1189 rfl (lv_at hl 3 rfl) ?_
  refine lv_iload_n hx hb dL_law_1190 rfl (lv_at hl 0 rfl) ?_
  refine lv_iconst (v := 3) hx hb dL_law_1191 (by decide) ?_
  refine fx_iadd hx hb dL_law_1192 rfl zk_3 (by omega) (fun y15 ey15 ty15 => ?_)
  refine va_sld hx hb hX hbl hbA hS (fm_in (by omega)) dL_law_1193 ?_
  refine lv_topi (fun x16 ex16 => ?_)
  have qx16 : x6 = x16 := by rw [ex16, ex6, ey15, ey5]
  clear ex16
  subst qx16
  refine lv_aload_n hx hb dL_law_1194 rfl (lv_at hl 3 rfl) ?_
  refine lv_iload_n hx hb dL_law_1195 rfl (lv_at hl 0 rfl) ?_
  refine lv_iconst (v := 4) hx hb dL_law_1196 (by decide) ?_
  refine fx_iadd hx hb dL_law_1197 rfl zk_4 (by omega) (fun y17 ey17 ty17 => ?_)
  refine va_sld hx hb hX hbl hbA hS (fm_in (by omega)) dL_law_1198 ?_
  refine lv_topi (fun x18 ex18 => ?_)
  have qx18 : x8 = x18 := by rw [ex18, ex8, ey17, ey7]
  clear ex18
  subst qx18
  refine fm_ci (va_runV (As := [.int x2, .int x4, .int x6, .int x8]) (rest := []) ⟨hx, hb, hml, hown, hts⟩ (fc_X12_man l D ad C nb M10 hI x2 x4 x6 x8) (cwV 4 hts gL_law_X12_man rfl rfl rfl (by decide +kernel) ⟨Nat.le_of_ble_eq_true rfl, Nat.le_of_ble_eq_true rfl⟩) (fm_preV hc hw hS kl_60 sh_60 rfl) rfl rfl hl.1 rfl (lv_room (Nat.le_of_ble_eq_true rfl)) dL_law_1199 ⟨hk1, hs1⟩) hS hc (fun r19 M20 H locs hr19 hw hS => ?_)
  obtain ⟨hI, hEM20, hr19⟩ := hr19
  refine lv_pop hx hb dL_law_1202 rfl ?_
  refine lv_goto (tgt := 1834) hx hb dL_law_1203 (by decide) ?_
  have hr90 : M20.1 0 0 10 = M20.1 60 0 16 := by rw [(hEM20 0 0 10 (by decide)).1, (hEM10 0 0 10 (by decide)).1, (hEM20 60 0 16 (by decide)).1, (hEM10 60 0 16 (by decide)).1]; exact hrel.1
  have hr91 : (∀ j : Nat, j < nb → M20.1 50 j 0 = M20.1 110 0 j) := fun j hj => by rw [(hEM20 50 j 0 (by decide)).1, (hEM10 50 j 0 (by decide)).1, (hEM20 110 0 j (by rw [cd_110]; decide)).1, (hEM10 110 0 j (by rw [cd_110]; decide)).1]; exact hrel.2.1 j hj
  have hr92 : (∀ j : Nat, j < nb → M20.1 50 j 3 = M20.1 113 0 j) := fun j hj => by rw [(hEM20 50 j 3 (by decide)).1, (hEM10 50 j 3 (by decide)).1, (hEM20 113 0 j (by rw [cd_113]; decide)).1, (hEM10 113 0 j (by rw [cd_113]; decide)).1]; exact hrel.2.2 j hj
  have hrel9 : M20.1 0 0 10 = M20.1 60 0 16 ∧ (∀ j : Nat, j < nb → M20.1 50 j 0 = M20.1 110 0 j) ∧ (∀ j : Nat, j < nb → M20.1 50 j 3 = M20.1 113 0 j) := ⟨hr90, hr91, hr92⟩
  exact kk M20 _ _ hw hI hS hrel9 ls (lv_sub hl [0, 1, 2, 3] rfl)
set_option maxHeartbeats 1000000 in
set_option maxRecDepth 20000 in
theorem lb_22 {p : Program} {l : Launch} {e : Env} {s : State} {m : MethodId} {below : List Frame} {meth : Method} {c : Code} {D : va_G} {ad : Nat → Nat → Nat} {C : Nat → Nat → ClassId} {nb : Nat} {M : fm_M} {b L : Nat} {xs : Nat → Int32} {H : Heap} {locs : List Loc} {kc sl : Nat} {i : Int32} (C0 : lw_At p s m meth c b L xs) (hkc : kc ≤ 10000) (hsl : sl ≤ 300000) (hc : fm_Cx D ad C nb (fun q : Nat => s.heap.size ≤ q) s) (hw : fm_at D ad C nb M H) (hI : fm_I nb ad M) (hS : va_S (fun q : Nat => s.heap.size ≤ q) s.heap H locs) (hi : 0 ≤ i.toInt ∧ i.toInt + 6 ≤ L) (hL : L ≤ 3072) (hrel : M.1 0 0 10 = M.1 60 0 16 ∧ (∀ j : Nat, j < nb → M.1 50 j 0 = M.1 110 0 j) ∧ (∀ j : Nat, j < nb → M.1 50 j 3 = M.1 113 0 j)) (kk : ∀ (M1 : fm_M) (H1 : Heap) (locs1 : List Loc), fm_at D ad C nb M1 H1 → fm_I nb ad M1 → va_S (fun q : Nat => s.heap.size ≤ q) s.heap H1 locs1 → M1.1 0 0 10 = M1.1 60 0 16 ∧ (∀ j : Nat, j < nb → M1.1 50 j 0 = M1.1 110 0 j) ∧ (∀ j : Nat, j < nb → M1.1 50 j 3 = M1.1 113 0 j) → ∀ ls : Array Slot, lv_has ls 4 [(3, .int i), (2, .ref (ad 60 0)), (1, .ref (ad 0 0)), (0, .ref b)] → W p l e room_1 s m #[Value.ref b] below meth c H1 locs1 kc sl (lw_Z below #[Value.ref b] s) (F0 m 1834 ls [])) (ls : Array Slot) (hl : lv_has ls 4 [(3, .int i), (2, .ref (ad 60 0)), (1, .ref (ad 0 0)), (0, .ref b)]) : W p l e room_1 s m #[Value.ref b] below meth c H locs kc sl (lw_Z below #[Value.ref b] s) (F0 m 1206 ls []) := by
  obtain ⟨hx, hb, hr, hml, hown, hts, hX, hbl, hlocks, hgv⟩ := id C0
  have hown : s.vm.findClass RL = some m.cls := hown
  have hb : c.code = cL_law := hb
  have hbA : ¬ (fun q : Nat => s.heap.size ≤ q) b := Nat.not_le.mpr hbl
  have hk1 : kc + 0 ≤ room_1.cells := by show kc + 0 ≤ 600000; omega
  have hs1 : sl + 0 ≤ room_1.slots := by show sl + 0 ≤ 7302250; omega
  have hI0 := hI
  refine lv_aload_n hx hb dL_law_1206 rfl (lv_at hl 2 rfl) ?_
  refine lv_aload_n hx hb dL_law_1207 rfl (lv_at hl 3 rfl) ?_
  refine lv_iload_n hx hb dL_law_1208 rfl (lv_at hl 0 rfl) ?_
  refine lv_iconst (v := 1) hx hb dL_law_1209 (by decide) ?_
  refine fx_iadd hx hb dL_law_1210 rfl zk_1 (by omega) (fun y1 ey1 ty1 => ?_)
  refine va_sld hx hb hX hbl hbA hS (fm_in (by omega)) dL_law_1211 ?_
  refine lv_topi (fun x2 ex2 => ?_)
  refine lv_aload_n hx hb dL_law_1212 rfl (lv_at hl 3 rfl) ?_
  refine lv_iload_n hx hb dL_law_1213 rfl (lv_at hl 0 rfl) ?_
  refine lv_iconst (v := 2) hx hb dL_law_1214 (by decide) ?_
  refine fx_iadd hx hb dL_law_1215 rfl zk_2 (by omega) (fun y3 ey3 ty3 => ?_)
  refine va_sld hx hb hX hbl hbA hS (fm_in (by omega)) dL_law_1216 ?_
  refine lv_topi (fun x4 ex4 => ?_)
  refine fx_i2l hx hb dL_law_1217 rfl (fun y5 ey5 ty5 => ?_)
  refine lv_bipush (v := 32) hx hb dL_law_1218 (by decide) ?_
  refine lv_lshl (v := y5 <<< ((32 : Int32).toInt64 &&& 63)) hx hb dL_law_1220 rfl ?_
  refine lv_topl (fun y6 ey6 => ?_)
  refine lv_aload_n hx hb dL_law_1221 rfl (lv_at hl 3 rfl) ?_
  refine lv_iload_n hx hb dL_law_1222 rfl (lv_at hl 0 rfl) ?_
  refine lv_iconst (v := 3) hx hb dL_law_1223 (by decide) ?_
  refine fx_iadd hx hb dL_law_1224 rfl zk_3 (by omega) (fun y7 ey7 ty7 => ?_)
  refine va_sld hx hb hX hbl hbA hS (fm_in (by omega)) dL_law_1225 ?_
  refine lv_topi (fun x8 ex8 => ?_)
  refine fx_i2l hx hb dL_law_1226 rfl (fun y9 ey9 ty9 => ?_)
  refine lv_ldc2 (v := 4294967295) hx hb hown (hts (.constantLong RL 42 (4294967295)) (rt_pc_in 7 _ (List.mem_of_getElem? (i := 231) (by decide +kernel)))) dL_law_1227 ?_
  refine lv_land hx hb dL_law_1230 ?_
  refine lv_topl (fun y10 ey10 => ?_)
  refine lv_lor hx hb dL_law_1231 ?_
  refine lv_topl (fun y11 ey11 => ?_)
  refine fm_ci (va_runV (As := [.int x2, .long y11]) (rest := []) ⟨hx, hb, hml, hown, hts⟩ (fc_X11_feed l D ad C nb M hI x2 y11) (cwV 2 hts gL_law_X11_feed rfl rfl rfl (by decide +kernel) ⟨Nat.le_of_ble_eq_true rfl, Nat.le_of_ble_eq_true rfl⟩) (fm_preV hc hw hS kl_0 sh_0 rfl) rfl rfl hl.1 rfl (lv_room (Nat.le_of_ble_eq_true rfl)) dL_law_1232 ⟨hk1, hs1⟩) hS hc (fun r12 M13 H locs hr12 hw hS => ?_)
  obtain ⟨hI, hEM13, hr12⟩ := hr12
  refine lv_pop hx hb dL_law_1235 rfl ?_
  refine lv_aload_n hx hb dL_law_1236 rfl (lv_at hl 1 rfl) ?_
  refine lv_aload_n hx hb dL_law_1237 rfl (lv_at hl 3 rfl) ?_
  refine lv_iload_n hx hb dL_law_1238 rfl (lv_at hl 0 rfl) ?_
  refine lv_iconst (v := 1) hx hb dL_law_1239 (by decide) ?_
  refine fx_iadd hx hb dL_law_1240 rfl zk_1 (by omega) (fun y14 ey14 ty14 => ?_)
  refine va_sld hx hb hX hbl hbA hS (fm_in (by omega)) dL_law_1241 ?_
  refine lv_topi (fun x15 ex15 => ?_)
  have qx15 : x2 = x15 := by rw [ex15, ex2, ey14, ey1]
  clear ex15
  subst qx15
  refine lv_aload_n hx hb dL_law_1242 rfl (lv_at hl 3 rfl) ?_
  refine lv_iload_n hx hb dL_law_1243 rfl (lv_at hl 0 rfl) ?_
  refine lv_iconst (v := 2) hx hb dL_law_1244 (by decide) ?_
  refine fx_iadd hx hb dL_law_1245 rfl zk_2 (by omega) (fun y16 ey16 ty16 => ?_)
  refine va_sld hx hb hX hbl hbA hS (fm_in (by omega)) dL_law_1246 ?_
  refine lv_topi (fun x17 ex17 => ?_)
  have qx17 : x4 = x17 := by rw [ex17, ex4, ey16, ey3]
  clear ex17
  subst qx17
  refine fx_i2l hx hb dL_law_1247 rfl (fun y18 ey18 ty18 => ?_)
  refine lv_bipush (v := 32) hx hb dL_law_1248 (by decide) ?_
  refine lv_lshl (v := y18 <<< ((32 : Int32).toInt64 &&& 63)) hx hb dL_law_1250 rfl ?_
  refine lv_topl (fun y19 ey19 => ?_)
  refine lv_aload_n hx hb dL_law_1251 rfl (lv_at hl 3 rfl) ?_
  refine lv_iload_n hx hb dL_law_1252 rfl (lv_at hl 0 rfl) ?_
  refine lv_iconst (v := 3) hx hb dL_law_1253 (by decide) ?_
  refine fx_iadd hx hb dL_law_1254 rfl zk_3 (by omega) (fun y20 ey20 ty20 => ?_)
  refine va_sld hx hb hX hbl hbA hS (fm_in (by omega)) dL_law_1255 ?_
  refine lv_topi (fun x21 ex21 => ?_)
  have qx21 : x8 = x21 := by rw [ex21, ex8, ey20, ey7]
  clear ex21
  subst qx21
  refine fx_i2l hx hb dL_law_1256 rfl (fun y22 ey22 ty22 => ?_)
  refine lv_ldc2 (v := 4294967295) hx hb hown (hts (.constantLong RL 42 (4294967295)) (rt_pc_in 7 _ (List.mem_of_getElem? (i := 231) (by decide +kernel)))) dL_law_1257 ?_
  refine lv_land hx hb dL_law_1260 ?_
  refine lv_topl (fun y23 ey23 => ?_)
  refine lv_lor hx hb dL_law_1261 ?_
  refine lv_topl (fun y24 ey24 => ?_)
  have qy24 : y11 = y24 := by rw [ey11, ey6, ey5, ey10, ey9, ey24, ey19, ey18, ey23, ey22]
  clear ey24
  subst qy24
  refine fm_ci (va_runV (As := [.int x2, .long y11]) (rest := []) ⟨hx, hb, hml, hown, hts⟩ (fc_X12_feed l D ad C nb M13 hI x2 y11) (cwV 2 hts gL_law_X12_feed rfl rfl rfl (by decide +kernel) ⟨Nat.le_of_ble_eq_true rfl, Nat.le_of_ble_eq_true rfl⟩) (fm_preV hc hw hS kl_60 sh_60 rfl) rfl rfl hl.1 rfl (lv_room (Nat.le_of_ble_eq_true rfl)) dL_law_1262 ⟨hk1, hs1⟩) hS hc (fun r25 M26 H locs hr25 hw hS => ?_)
  obtain ⟨hI, hEM26, hr25⟩ := hr25
  refine lv_pop hx hb dL_law_1265 rfl ?_
  refine lv_goto (tgt := 1834) hx hb dL_law_1266 (by decide) ?_
  have hr90 : M26.1 0 0 10 = M26.1 60 0 16 := by rw [(hEM26 0 0 10 (by decide)).1, (hEM13 0 0 10 (by decide)).1, (hEM26 60 0 16 (by decide)).1, (hEM13 60 0 16 (by decide)).1]; exact hrel.1
  have hr91 : (∀ j : Nat, j < nb → M26.1 50 j 0 = M26.1 110 0 j) := fun j hj => by rw [(hEM26 50 j 0 (by decide)).1, (hEM13 50 j 0 (by decide)).1, (hEM26 110 0 j (by rw [cd_110]; decide)).1, (hEM13 110 0 j (by rw [cd_110]; decide)).1]; exact hrel.2.1 j hj
  have hr92 : (∀ j : Nat, j < nb → M26.1 50 j 3 = M26.1 113 0 j) := fun j hj => by rw [(hEM26 50 j 3 (by decide)).1, (hEM13 50 j 3 (by decide)).1, (hEM26 113 0 j (by rw [cd_113]; decide)).1, (hEM13 113 0 j (by rw [cd_113]; decide)).1]; exact hrel.2.2 j hj
  have hrel9 : M26.1 0 0 10 = M26.1 60 0 16 ∧ (∀ j : Nat, j < nb → M26.1 50 j 0 = M26.1 110 0 j) ∧ (∀ j : Nat, j < nb → M26.1 50 j 3 = M26.1 113 0 j) := ⟨hr90, hr91, hr92⟩
  exact kk M26 _ _ hw hI hS hrel9 ls (lv_sub hl [0, 1, 2, 3] rfl)
set_option maxHeartbeats 1000000 in
set_option maxRecDepth 20000 in
theorem lb_23 {p : Program} {l : Launch} {e : Env} {s : State} {m : MethodId} {below : List Frame} {meth : Method} {c : Code} {D : va_G} {ad : Nat → Nat → Nat} {C : Nat → Nat → ClassId} {nb : Nat} {M : fm_M} {b L : Nat} {xs : Nat → Int32} {H : Heap} {locs : List Loc} {kc sl : Nat} {i : Int32} (C0 : lw_At p s m meth c b L xs) (hkc : kc ≤ 10000) (hsl : sl ≤ 300000) (hc : fm_Cx D ad C nb (fun q : Nat => s.heap.size ≤ q) s) (hw : fm_at D ad C nb M H) (hI : fm_I nb ad M) (hS : va_S (fun q : Nat => s.heap.size ≤ q) s.heap H locs) (hi : 0 ≤ i.toInt ∧ i.toInt + 6 ≤ L) (hL : L ≤ 3072) (hrel : M.1 0 0 10 = M.1 60 0 16 ∧ (∀ j : Nat, j < nb → M.1 50 j 0 = M.1 110 0 j) ∧ (∀ j : Nat, j < nb → M.1 50 j 3 = M.1 113 0 j)) (kk : ∀ (M1 : fm_M) (H1 : Heap) (locs1 : List Loc), fm_at D ad C nb M1 H1 → fm_I nb ad M1 → va_S (fun q : Nat => s.heap.size ≤ q) s.heap H1 locs1 → M1.1 0 0 10 = M1.1 60 0 16 ∧ (∀ j : Nat, j < nb → M1.1 50 j 0 = M1.1 110 0 j) ∧ (∀ j : Nat, j < nb → M1.1 50 j 3 = M1.1 113 0 j) → ∀ ls : Array Slot, lv_has ls 4 [(3, .int i), (2, .ref (ad 60 0)), (1, .ref (ad 0 0)), (0, .ref b)] → W p l e room_1 s m #[Value.ref b] below meth c H1 locs1 kc sl (lw_Z below #[Value.ref b] s) (F0 m 1834 ls [])) (ls : Array Slot) (hl : lv_has ls 4 [(3, .int i), (2, .ref (ad 60 0)), (1, .ref (ad 0 0)), (0, .ref b)]) : W p l e room_1 s m #[Value.ref b] below meth c H locs kc sl (lw_Z below #[Value.ref b] s) (F0 m 1269 ls []) := by
  obtain ⟨hx, hb, hr, hml, hown, hts, hX, hbl, hlocks, hgv⟩ := id C0
  have hown : s.vm.findClass RL = some m.cls := hown
  have hb : c.code = cL_law := hb
  have hbA : ¬ (fun q : Nat => s.heap.size ≤ q) b := Nat.not_le.mpr hbl
  have hk1 : kc + 0 ≤ room_1.cells := by show kc + 0 ≤ 600000; omega
  have hs1 : sl + 0 ≤ room_1.slots := by show sl + 0 ≤ 7302250; omega
  have hI0 := hI
  refine lv_aload_n hx hb dL_law_1269 rfl (lv_at hl 2 rfl) ?_
  refine fm_ci (va_runV (As := []) (rest := []) ⟨hx, hb, hml, hown, hts⟩ (fc_X11_text l D ad C nb M hI) (cwV 0 hts gL_law_X11_text rfl rfl rfl (by decide +kernel) ⟨Nat.le_of_ble_eq_true rfl, Nat.le_of_ble_eq_true rfl⟩) (fm_preV hc hw hS kl_0 sh_0 rfl) rfl rfl hl.1 rfl (lv_room (Nat.le_of_ble_eq_true rfl)) dL_law_1270 ⟨hk1, hs1⟩) hS hc (fun r1 M2 H locs hr1 hw hS => ?_)
  obtain ⟨hI, hEM2, hr1⟩ := hr1
  refine lv_pop hx hb dL_law_1273 rfl ?_
  refine lv_aload_n hx hb dL_law_1274 rfl (lv_at hl 1 rfl) ?_
  refine fm_ci (va_runV (As := []) (rest := []) ⟨hx, hb, hml, hown, hts⟩ (fc_X12_text l D ad C nb M2 hI) (cwV 0 hts gL_law_X12_text rfl rfl rfl (by decide +kernel) ⟨Nat.le_of_ble_eq_true rfl, Nat.le_of_ble_eq_true rfl⟩) (fm_preV hc hw hS kl_60 sh_60 rfl) rfl rfl hl.1 rfl (lv_room (Nat.le_of_ble_eq_true rfl)) dL_law_1275 ⟨hk1, hs1⟩) hS hc (fun r3 M4 H locs hr3 hw hS => ?_)
  obtain ⟨hI, hEM4, hr3⟩ := hr3
  refine lv_pop hx hb dL_law_1278 rfl ?_
  refine lv_goto (tgt := 1834) hx hb dL_law_1279 (by decide) ?_
  have hr90 : M4.1 0 0 10 = M4.1 60 0 16 := by rw [(hEM4 0 0 10 (by decide)).1, (hEM2 0 0 10 (by decide)).1, (hEM4 60 0 16 (by decide)).1, (hEM2 60 0 16 (by decide)).1]; exact hrel.1
  have hr91 : (∀ j : Nat, j < nb → M4.1 50 j 0 = M4.1 110 0 j) := fun j hj => by rw [(hEM4 50 j 0 (by decide)).1, (hEM2 50 j 0 (by decide)).1, (hEM4 110 0 j (by rw [cd_110]; decide)).1, (hEM2 110 0 j (by rw [cd_110]; decide)).1]; exact hrel.2.1 j hj
  have hr92 : (∀ j : Nat, j < nb → M4.1 50 j 3 = M4.1 113 0 j) := fun j hj => by rw [(hEM4 50 j 3 (by decide)).1, (hEM2 50 j 3 (by decide)).1, (hEM4 113 0 j (by rw [cd_113]; decide)).1, (hEM2 113 0 j (by rw [cd_113]; decide)).1]; exact hrel.2.2 j hj
  have hrel9 : M4.1 0 0 10 = M4.1 60 0 16 ∧ (∀ j : Nat, j < nb → M4.1 50 j 0 = M4.1 110 0 j) ∧ (∀ j : Nat, j < nb → M4.1 50 j 3 = M4.1 113 0 j) := ⟨hr90, hr91, hr92⟩
  exact kk M4 _ _ hw hI hS hrel9 ls (lv_sub hl [0, 1, 2, 3] rfl)
set_option maxHeartbeats 1000000 in
set_option maxRecDepth 20000 in
theorem lb_24 {p : Program} {l : Launch} {e : Env} {s : State} {m : MethodId} {below : List Frame} {meth : Method} {c : Code} {D : va_G} {ad : Nat → Nat → Nat} {C : Nat → Nat → ClassId} {nb : Nat} {M : fm_M} {b L : Nat} {xs : Nat → Int32} {H : Heap} {locs : List Loc} {kc sl : Nat} {i : Int32} (C0 : lw_At p s m meth c b L xs) (hkc : kc ≤ 10000) (hsl : sl ≤ 300000) (hc : fm_Cx D ad C nb (fun q : Nat => s.heap.size ≤ q) s) (hw : fm_at D ad C nb M H) (hI : fm_I nb ad M) (hS : va_S (fun q : Nat => s.heap.size ≤ q) s.heap H locs) (hi : 0 ≤ i.toInt ∧ i.toInt + 6 ≤ L) (hL : L ≤ 3072) (hrel : M.1 0 0 10 = M.1 60 0 16 ∧ (∀ j : Nat, j < nb → M.1 50 j 0 = M.1 110 0 j) ∧ (∀ j : Nat, j < nb → M.1 50 j 3 = M.1 113 0 j)) (kk : ∀ (M1 : fm_M) (H1 : Heap) (locs1 : List Loc), fm_at D ad C nb M1 H1 → fm_I nb ad M1 → va_S (fun q : Nat => s.heap.size ≤ q) s.heap H1 locs1 → M1.1 0 0 10 = M1.1 60 0 16 ∧ (∀ j : Nat, j < nb → M1.1 50 j 0 = M1.1 110 0 j) ∧ (∀ j : Nat, j < nb → M1.1 50 j 3 = M1.1 113 0 j) → ∀ ls : Array Slot, lv_has ls 4 [(3, .int i), (2, .ref (ad 60 0)), (1, .ref (ad 0 0)), (0, .ref b)] → W p l e room_1 s m #[Value.ref b] below meth c H1 locs1 kc sl (lw_Z below #[Value.ref b] s) (F0 m 1834 ls [])) (ls : Array Slot) (hl : lv_has ls 4 [(3, .int i), (2, .ref (ad 60 0)), (1, .ref (ad 0 0)), (0, .ref b)]) : W p l e room_1 s m #[Value.ref b] below meth c H locs kc sl (lw_Z below #[Value.ref b] s) (F0 m 1282 ls []) := by
  obtain ⟨hx, hb, hr, hml, hown, hts, hX, hbl, hlocks, hgv⟩ := id C0
  have hown : s.vm.findClass RL = some m.cls := hown
  have hb : c.code = cL_law := hb
  have hbA : ¬ (fun q : Nat => s.heap.size ≤ q) b := Nat.not_le.mpr hbl
  have hk1 : kc + 0 ≤ room_1.cells := by show kc + 0 ≤ 600000; omega
  have hs1 : sl + 0 ≤ room_1.slots := by show sl + 0 ≤ 7302250; omega
  have hI0 := hI
  refine lv_aload_n hx hb dL_law_1282 rfl (lv_at hl 2 rfl) ?_
  refine lv_aload_n hx hb dL_law_1283 rfl (lv_at hl 3 rfl) ?_
  refine lv_iload_n hx hb dL_law_1284 rfl (lv_at hl 0 rfl) ?_
  refine lv_iconst (v := 1) hx hb dL_law_1285 (by decide) ?_
  refine fx_iadd hx hb dL_law_1286 rfl zk_1 (by omega) (fun y1 ey1 ty1 => ?_)
  refine va_sld hx hb hX hbl hbA hS (fm_in (by omega)) dL_law_1287 ?_
  refine lv_topi (fun x2 ex2 => ?_)
  refine fm_ci (va_runV (As := [.int x2]) (rest := []) ⟨hx, hb, hml, hown, hts⟩ (fc_X11_force l D ad C nb M hI x2) (cwV 1 hts gL_law_X11_force rfl rfl rfl (by decide +kernel) ⟨Nat.le_of_ble_eq_true rfl, Nat.le_of_ble_eq_true rfl⟩) (fm_preV hc hw hS kl_0 sh_0 rfl) rfl rfl hl.1 rfl (lv_room (Nat.le_of_ble_eq_true rfl)) dL_law_1288 ⟨hk1, hs1⟩) hS hc (fun r3 M4 H locs hr3 hw hS => ?_)
  obtain ⟨hI, hEM4, hr3⟩ := hr3
  refine lv_pop hx hb dL_law_1291 rfl ?_
  refine lv_aload_n hx hb dL_law_1292 rfl (lv_at hl 1 rfl) ?_
  refine lv_aload_n hx hb dL_law_1293 rfl (lv_at hl 3 rfl) ?_
  refine lv_iload_n hx hb dL_law_1294 rfl (lv_at hl 0 rfl) ?_
  refine lv_iconst (v := 1) hx hb dL_law_1295 (by decide) ?_
  refine fx_iadd hx hb dL_law_1296 rfl zk_1 (by omega) (fun y5 ey5 ty5 => ?_)
  refine va_sld hx hb hX hbl hbA hS (fm_in (by omega)) dL_law_1297 ?_
  refine lv_topi (fun x6 ex6 => ?_)
  have qx6 : x2 = x6 := by rw [ex6, ex2, ey5, ey1]
  clear ex6
  subst qx6
  refine fm_ci (va_runV (As := [.int x2]) (rest := []) ⟨hx, hb, hml, hown, hts⟩ (fc_X12_force l D ad C nb M4 hI x2) (cwV 1 hts gL_law_X12_force rfl rfl rfl (by decide +kernel) ⟨Nat.le_of_ble_eq_true rfl, Nat.le_of_ble_eq_true rfl⟩) (fm_preV hc hw hS kl_60 sh_60 rfl) rfl rfl hl.1 rfl (lv_room (Nat.le_of_ble_eq_true rfl)) dL_law_1298 ⟨hk1, hs1⟩) hS hc (fun r7 M8 H locs hr7 hw hS => ?_)
  obtain ⟨hI, hEM8, hr7⟩ := hr7
  refine lv_pop hx hb dL_law_1301 rfl ?_
  refine lv_goto (tgt := 1834) hx hb dL_law_1302 (by decide) ?_
  have hr90 : M8.1 0 0 10 = M8.1 60 0 16 := by rw [(hEM8 0 0 10 (by decide)).1, (hEM4 0 0 10 (by decide)).1, (hEM8 60 0 16 (by decide)).1, (hEM4 60 0 16 (by decide)).1]; exact hrel.1
  have hr91 : (∀ j : Nat, j < nb → M8.1 50 j 0 = M8.1 110 0 j) := fun j hj => by rw [(hEM8 50 j 0 (by decide)).1, (hEM4 50 j 0 (by decide)).1, (hEM8 110 0 j (by rw [cd_110]; decide)).1, (hEM4 110 0 j (by rw [cd_110]; decide)).1]; exact hrel.2.1 j hj
  have hr92 : (∀ j : Nat, j < nb → M8.1 50 j 3 = M8.1 113 0 j) := fun j hj => by rw [(hEM8 50 j 3 (by decide)).1, (hEM4 50 j 3 (by decide)).1, (hEM8 113 0 j (by rw [cd_113]; decide)).1, (hEM4 113 0 j (by rw [cd_113]; decide)).1]; exact hrel.2.2 j hj
  have hrel9 : M8.1 0 0 10 = M8.1 60 0 16 ∧ (∀ j : Nat, j < nb → M8.1 50 j 0 = M8.1 110 0 j) ∧ (∀ j : Nat, j < nb → M8.1 50 j 3 = M8.1 113 0 j) := ⟨hr90, hr91, hr92⟩
  exact kk M8 _ _ hw hI hS hrel9 ls (lv_sub hl [0, 1, 2, 3] rfl)
set_option maxHeartbeats 1000000 in
set_option maxRecDepth 20000 in
theorem lb_25 {p : Program} {l : Launch} {e : Env} {s : State} {m : MethodId} {below : List Frame} {meth : Method} {c : Code} {D : va_G} {ad : Nat → Nat → Nat} {C : Nat → Nat → ClassId} {nb : Nat} {M : fm_M} {b L : Nat} {xs : Nat → Int32} {H : Heap} {locs : List Loc} {kc sl : Nat} {i : Int32} (C0 : lw_At p s m meth c b L xs) (hkc : kc ≤ 10000) (hsl : sl ≤ 300000) (hc : fm_Cx D ad C nb (fun q : Nat => s.heap.size ≤ q) s) (hw : fm_at D ad C nb M H) (hI : fm_I nb ad M) (hS : va_S (fun q : Nat => s.heap.size ≤ q) s.heap H locs) (hi : 0 ≤ i.toInt ∧ i.toInt + 6 ≤ L) (hL : L ≤ 3072) (hrel : M.1 0 0 10 = M.1 60 0 16 ∧ (∀ j : Nat, j < nb → M.1 50 j 0 = M.1 110 0 j) ∧ (∀ j : Nat, j < nb → M.1 50 j 3 = M.1 113 0 j)) (kk : ∀ (M1 : fm_M) (H1 : Heap) (locs1 : List Loc), fm_at D ad C nb M1 H1 → fm_I nb ad M1 → va_S (fun q : Nat => s.heap.size ≤ q) s.heap H1 locs1 → M1.1 0 0 10 = M1.1 60 0 16 ∧ (∀ j : Nat, j < nb → M1.1 50 j 0 = M1.1 110 0 j) ∧ (∀ j : Nat, j < nb → M1.1 50 j 3 = M1.1 113 0 j) → ∀ ls : Array Slot, lv_has ls 4 [(3, .int i), (2, .ref (ad 60 0)), (1, .ref (ad 0 0)), (0, .ref b)] → W p l e room_1 s m #[Value.ref b] below meth c H1 locs1 kc sl (lw_Z below #[Value.ref b] s) (F0 m 1834 ls [])) (ls : Array Slot) (hl : lv_has ls 4 [(3, .int i), (2, .ref (ad 60 0)), (1, .ref (ad 0 0)), (0, .ref b)]) : W p l e room_1 s m #[Value.ref b] below meth c H locs kc sl (lw_Z below #[Value.ref b] s) (F0 m 1305 ls []) := by
  obtain ⟨hx, hb, hr, hml, hown, hts, hX, hbl, hlocks, hgv⟩ := id C0
  have hown : s.vm.findClass RL = some m.cls := hown
  have hb : c.code = cL_law := hb
  have hbA : ¬ (fun q : Nat => s.heap.size ≤ q) b := Nat.not_le.mpr hbl
  have hk1 : kc + 0 ≤ room_1.cells := by show kc + 0 ≤ 600000; omega
  have hs1 : sl + 0 ≤ room_1.slots := by show sl + 0 ≤ 7302250; omega
  have hI0 := hI
  refine lv_aload_n hx hb dL_law_1305 rfl (lv_at hl 2 rfl) ?_
  refine lv_aload_n hx hb dL_law_1306 rfl (lv_at hl 3 rfl) ?_
  refine lv_iload_n hx hb dL_law_1307 rfl (lv_at hl 0 rfl) ?_
  refine lv_iconst (v := 1) hx hb dL_law_1308 (by decide) ?_
  refine fx_iadd hx hb dL_law_1309 rfl zk_1 (by omega) (fun y1 ey1 ty1 => ?_)
  refine va_sld hx hb hX hbl hbA hS (fm_in (by omega)) dL_law_1310 ?_
  refine lv_topi (fun x2 ex2 => ?_)
  refine lv_aload_n hx hb dL_law_1311 rfl (lv_at hl 3 rfl) ?_
  refine lv_iload_n hx hb dL_law_1312 rfl (lv_at hl 0 rfl) ?_
  refine lv_iconst (v := 2) hx hb dL_law_1313 (by decide) ?_
  refine fx_iadd hx hb dL_law_1314 rfl zk_2 (by omega) (fun y3 ey3 ty3 => ?_)
  refine va_sld hx hb hX hbl hbA hS (fm_in (by omega)) dL_law_1315 ?_
  refine lv_topi (fun x4 ex4 => ?_)
  refine lv_aload_n hx hb dL_law_1316 rfl (lv_at hl 3 rfl) ?_
  refine lv_iload_n hx hb dL_law_1317 rfl (lv_at hl 0 rfl) ?_
  refine lv_iconst (v := 3) hx hb dL_law_1318 (by decide) ?_
  refine fx_iadd hx hb dL_law_1319 rfl zk_3 (by omega) (fun y5 ey5 ty5 => ?_)
  refine va_sld hx hb hX hbl hbA hS (fm_in (by omega)) dL_law_1320 ?_
  refine lv_topi (fun x6 ex6 => ?_)
  refine fm_cl (va_runV (As := [.int x2, .int x4, .int x6]) (rest := []) ⟨hx, hb, hml, hown, hts⟩ (fc_X11_says l D ad C nb M hI x2 x4 x6) (cwV 3 hts gL_law_X11_says rfl rfl rfl (by decide +kernel) ⟨Nat.le_of_ble_eq_true rfl, Nat.le_of_ble_eq_true rfl⟩) (fm_preV hc hw hS kl_0 sh_0 rfl) rfl rfl hl.1 rfl (lv_room (Nat.le_of_ble_eq_true rfl)) dL_law_1321 ⟨hk1, hs1⟩) hS hc (fun r7 M8 H locs hr7 hw hS => ?_)
  obtain ⟨hI, hEM8, hr7⟩ := hr7
  refine lv_pop2_2 hx hb dL_law_1324 rfl ?_
  refine lv_aload_n hx hb dL_law_1325 rfl (lv_at hl 1 rfl) ?_
  refine lv_aload_n hx hb dL_law_1326 rfl (lv_at hl 3 rfl) ?_
  refine lv_iload_n hx hb dL_law_1327 rfl (lv_at hl 0 rfl) ?_
  refine lv_iconst (v := 1) hx hb dL_law_1328 (by decide) ?_
  refine fx_iadd hx hb dL_law_1329 rfl zk_1 (by omega) (fun y9 ey9 ty9 => ?_)
  refine va_sld hx hb hX hbl hbA hS (fm_in (by omega)) dL_law_1330 ?_
  refine lv_topi (fun x10 ex10 => ?_)
  have qx10 : x2 = x10 := by rw [ex10, ex2, ey9, ey1]
  clear ex10
  subst qx10
  refine lv_aload_n hx hb dL_law_1331 rfl (lv_at hl 3 rfl) ?_
  refine lv_iload_n hx hb dL_law_1332 rfl (lv_at hl 0 rfl) ?_
  refine lv_iconst (v := 2) hx hb dL_law_1333 (by decide) ?_
  refine fx_iadd hx hb dL_law_1334 rfl zk_2 (by omega) (fun y11 ey11 ty11 => ?_)
  refine va_sld hx hb hX hbl hbA hS (fm_in (by omega)) dL_law_1335 ?_
  refine lv_topi (fun x12 ex12 => ?_)
  have qx12 : x4 = x12 := by rw [ex12, ex4, ey11, ey3]
  clear ex12
  subst qx12
  refine lv_aload_n hx hb dL_law_1336 rfl (lv_at hl 3 rfl) ?_
  refine lv_iload_n hx hb dL_law_1337 rfl (lv_at hl 0 rfl) ?_
  refine lv_iconst (v := 3) hx hb dL_law_1338 (by decide) ?_
  refine fx_iadd hx hb dL_law_1339 rfl zk_3 (by omega) (fun y13 ey13 ty13 => ?_)
  refine va_sld hx hb hX hbl hbA hS (fm_in (by omega)) dL_law_1340 ?_
  refine lv_topi (fun x14 ex14 => ?_)
  have qx14 : x6 = x14 := by rw [ex14, ex6, ey13, ey5]
  clear ex14
  subst qx14
  refine fm_cl (va_runV (As := [.int x2, .int x4, .int x6]) (rest := []) ⟨hx, hb, hml, hown, hts⟩ (fc_X12_says l D ad C nb M8 hI x2 x4 x6) (cwV 3 hts gL_law_X12_says rfl rfl rfl (by decide +kernel) ⟨Nat.le_of_ble_eq_true rfl, Nat.le_of_ble_eq_true rfl⟩) (fm_preV hc hw hS kl_60 sh_60 rfl) rfl rfl hl.1 rfl (lv_room (Nat.le_of_ble_eq_true rfl)) dL_law_1341 ⟨hk1, hs1⟩) hS hc (fun r15 M16 H locs hr15 hw hS => ?_)
  obtain ⟨hI, hEM16, hr15⟩ := hr15
  refine lv_pop2_2 hx hb dL_law_1344 rfl ?_
  refine lv_goto (tgt := 1834) hx hb dL_law_1345 (by decide) ?_
  have hr90 : M16.1 0 0 10 = M16.1 60 0 16 := by rw [(hEM16 0 0 10 (by decide)).1, (hEM8 0 0 10 (by decide)).1, (hEM16 60 0 16 (by decide)).1, (hEM8 60 0 16 (by decide)).1]; exact hrel.1
  have hr91 : (∀ j : Nat, j < nb → M16.1 50 j 0 = M16.1 110 0 j) := fun j hj => by rw [(hEM16 50 j 0 (by decide)).1, (hEM8 50 j 0 (by decide)).1, (hEM16 110 0 j (by rw [cd_110]; decide)).1, (hEM8 110 0 j (by rw [cd_110]; decide)).1]; exact hrel.2.1 j hj
  have hr92 : (∀ j : Nat, j < nb → M16.1 50 j 3 = M16.1 113 0 j) := fun j hj => by rw [(hEM16 50 j 3 (by decide)).1, (hEM8 50 j 3 (by decide)).1, (hEM16 113 0 j (by rw [cd_113]; decide)).1, (hEM8 113 0 j (by rw [cd_113]; decide)).1]; exact hrel.2.2 j hj
  have hrel9 : M16.1 0 0 10 = M16.1 60 0 16 ∧ (∀ j : Nat, j < nb → M16.1 50 j 0 = M16.1 110 0 j) ∧ (∀ j : Nat, j < nb → M16.1 50 j 3 = M16.1 113 0 j) := ⟨hr90, hr91, hr92⟩
  exact kk M16 _ _ hw hI hS hrel9 ls (lv_sub hl [0, 1, 2, 3] rfl)
set_option maxHeartbeats 1000000 in
set_option maxRecDepth 20000 in
theorem lb_26 {p : Program} {l : Launch} {e : Env} {s : State} {m : MethodId} {below : List Frame} {meth : Method} {c : Code} {D : va_G} {ad : Nat → Nat → Nat} {C : Nat → Nat → ClassId} {nb : Nat} {M : fm_M} {b L : Nat} {xs : Nat → Int32} {H : Heap} {locs : List Loc} {kc sl : Nat} {i : Int32} (C0 : lw_At p s m meth c b L xs) (hkc : kc ≤ 10000) (hsl : sl ≤ 300000) (hc : fm_Cx D ad C nb (fun q : Nat => s.heap.size ≤ q) s) (hw : fm_at D ad C nb M H) (hI : fm_I nb ad M) (hS : va_S (fun q : Nat => s.heap.size ≤ q) s.heap H locs) (hi : 0 ≤ i.toInt ∧ i.toInt + 6 ≤ L) (hL : L ≤ 3072) (hrel : M.1 0 0 10 = M.1 60 0 16 ∧ (∀ j : Nat, j < nb → M.1 50 j 0 = M.1 110 0 j) ∧ (∀ j : Nat, j < nb → M.1 50 j 3 = M.1 113 0 j)) (kk : ∀ (M1 : fm_M) (H1 : Heap) (locs1 : List Loc), fm_at D ad C nb M1 H1 → fm_I nb ad M1 → va_S (fun q : Nat => s.heap.size ≤ q) s.heap H1 locs1 → M1.1 0 0 10 = M1.1 60 0 16 ∧ (∀ j : Nat, j < nb → M1.1 50 j 0 = M1.1 110 0 j) ∧ (∀ j : Nat, j < nb → M1.1 50 j 3 = M1.1 113 0 j) → ∀ ls : Array Slot, lv_has ls 4 [(3, .int i), (2, .ref (ad 60 0)), (1, .ref (ad 0 0)), (0, .ref b)] → W p l e room_1 s m #[Value.ref b] below meth c H1 locs1 kc sl (lw_Z below #[Value.ref b] s) (F0 m 1834 ls [])) (ls : Array Slot) (hl : lv_has ls 4 [(3, .int i), (2, .ref (ad 60 0)), (1, .ref (ad 0 0)), (0, .ref b)]) : W p l e room_1 s m #[Value.ref b] below meth c H locs kc sl (lw_Z below #[Value.ref b] s) (F0 m 1348 ls []) := by
  obtain ⟨hx, hb, hr, hml, hown, hts, hX, hbl, hlocks, hgv⟩ := id C0
  have hown : s.vm.findClass RL = some m.cls := hown
  have hb : c.code = cL_law := hb
  have hbA : ¬ (fun q : Nat => s.heap.size ≤ q) b := Nat.not_le.mpr hbl
  have hk1 : kc + 0 ≤ room_1.cells := by show kc + 0 ≤ 600000; omega
  have hs1 : sl + 0 ≤ room_1.slots := by show sl + 0 ≤ 7302250; omega
  have hI0 := hI
  refine lv_aload_n hx hb dL_law_1348 rfl (lv_at hl 2 rfl) ?_
  refine lv_aload_n hx hb dL_law_1349 rfl (lv_at hl 3 rfl) ?_
  refine lv_iload_n hx hb dL_law_1350 rfl (lv_at hl 0 rfl) ?_
  refine lv_iconst (v := 1) hx hb dL_law_1351 (by decide) ?_
  refine fx_iadd hx hb dL_law_1352 rfl zk_1 (by omega) (fun y1 ey1 ty1 => ?_)
  refine va_sld hx hb hX hbl hbA hS (fm_in (by omega)) dL_law_1353 ?_
  refine lv_topi (fun x2 ex2 => ?_)
  refine lv_aload_n hx hb dL_law_1354 rfl (lv_at hl 3 rfl) ?_
  refine lv_iload_n hx hb dL_law_1355 rfl (lv_at hl 0 rfl) ?_
  refine lv_iconst (v := 2) hx hb dL_law_1356 (by decide) ?_
  refine fx_iadd hx hb dL_law_1357 rfl zk_2 (by omega) (fun y3 ey3 ty3 => ?_)
  refine va_sld hx hb hX hbl hbA hS (fm_in (by omega)) dL_law_1358 ?_
  refine lv_topi (fun x4 ex4 => ?_)
  refine fm_ci (va_runV (As := [.int x2, .int x4]) (rest := []) ⟨hx, hb, hml, hown, hts⟩ (fc_X11_first l D ad C nb M hI x2 x4) (cwV 2 hts gL_law_X11_first rfl rfl rfl (by decide +kernel) ⟨Nat.le_of_ble_eq_true rfl, Nat.le_of_ble_eq_true rfl⟩) (fm_preV hc hw hS kl_0 sh_0 rfl) rfl rfl hl.1 rfl (lv_room (Nat.le_of_ble_eq_true rfl)) dL_law_1359 ⟨hk1, hs1⟩) hS hc (fun r5 M6 H locs hr5 hw hS => ?_)
  obtain ⟨hI, hEM6, hr5⟩ := hr5
  refine lv_pop hx hb dL_law_1362 rfl ?_
  refine lv_aload_n hx hb dL_law_1363 rfl (lv_at hl 1 rfl) ?_
  refine lv_aload_n hx hb dL_law_1364 rfl (lv_at hl 3 rfl) ?_
  refine lv_iload_n hx hb dL_law_1365 rfl (lv_at hl 0 rfl) ?_
  refine lv_iconst (v := 1) hx hb dL_law_1366 (by decide) ?_
  refine fx_iadd hx hb dL_law_1367 rfl zk_1 (by omega) (fun y7 ey7 ty7 => ?_)
  refine va_sld hx hb hX hbl hbA hS (fm_in (by omega)) dL_law_1368 ?_
  refine lv_topi (fun x8 ex8 => ?_)
  have qx8 : x2 = x8 := by rw [ex8, ex2, ey7, ey1]
  clear ex8
  subst qx8
  refine lv_aload_n hx hb dL_law_1369 rfl (lv_at hl 3 rfl) ?_
  refine lv_iload_n hx hb dL_law_1370 rfl (lv_at hl 0 rfl) ?_
  refine lv_iconst (v := 2) hx hb dL_law_1371 (by decide) ?_
  refine fx_iadd hx hb dL_law_1372 rfl zk_2 (by omega) (fun y9 ey9 ty9 => ?_)
  refine va_sld hx hb hX hbl hbA hS (fm_in (by omega)) dL_law_1373 ?_
  refine lv_topi (fun x10 ex10 => ?_)
  have qx10 : x4 = x10 := by rw [ex10, ex4, ey9, ey3]
  clear ex10
  subst qx10
  refine fm_ci (va_runV (As := [.int x2, .int x4]) (rest := []) ⟨hx, hb, hml, hown, hts⟩ (fc_X12_first l D ad C nb M6 hI x2 x4) (cwV 2 hts gL_law_X12_first rfl rfl rfl (by decide +kernel) ⟨Nat.le_of_ble_eq_true rfl, Nat.le_of_ble_eq_true rfl⟩) (fm_preV hc hw hS kl_60 sh_60 rfl) rfl rfl hl.1 rfl (lv_room (Nat.le_of_ble_eq_true rfl)) dL_law_1374 ⟨hk1, hs1⟩) hS hc (fun r11 M12 H locs hr11 hw hS => ?_)
  obtain ⟨hI, hEM12, hr11⟩ := hr11
  refine lv_pop hx hb dL_law_1377 rfl ?_
  refine lv_goto (tgt := 1834) hx hb dL_law_1378 (by decide) ?_
  have hr90 : M12.1 0 0 10 = M12.1 60 0 16 := by rw [(hEM12 0 0 10 (by decide)).1, (hEM6 0 0 10 (by decide)).1, (hEM12 60 0 16 (by decide)).1, (hEM6 60 0 16 (by decide)).1]; exact hrel.1
  have hr91 : (∀ j : Nat, j < nb → M12.1 50 j 0 = M12.1 110 0 j) := fun j hj => by rw [(hEM12 50 j 0 (by decide)).1, (hEM6 50 j 0 (by decide)).1, (hEM12 110 0 j (by rw [cd_110]; decide)).1, (hEM6 110 0 j (by rw [cd_110]; decide)).1]; exact hrel.2.1 j hj
  have hr92 : (∀ j : Nat, j < nb → M12.1 50 j 3 = M12.1 113 0 j) := fun j hj => by rw [(hEM12 50 j 3 (by decide)).1, (hEM6 50 j 3 (by decide)).1, (hEM12 113 0 j (by rw [cd_113]; decide)).1, (hEM6 113 0 j (by rw [cd_113]; decide)).1]; exact hrel.2.2 j hj
  have hrel9 : M12.1 0 0 10 = M12.1 60 0 16 ∧ (∀ j : Nat, j < nb → M12.1 50 j 0 = M12.1 110 0 j) ∧ (∀ j : Nat, j < nb → M12.1 50 j 3 = M12.1 113 0 j) := ⟨hr90, hr91, hr92⟩
  exact kk M12 _ _ hw hI hS hrel9 ls (lv_sub hl [0, 1, 2, 3] rfl)
set_option maxHeartbeats 1000000 in
set_option maxRecDepth 20000 in
theorem lb_27 {p : Program} {l : Launch} {e : Env} {s : State} {m : MethodId} {below : List Frame} {meth : Method} {c : Code} {D : va_G} {ad : Nat → Nat → Nat} {C : Nat → Nat → ClassId} {nb : Nat} {M : fm_M} {b L : Nat} {xs : Nat → Int32} {H : Heap} {locs : List Loc} {kc sl : Nat} {i : Int32} (C0 : lw_At p s m meth c b L xs) (hkc : kc ≤ 10000) (hsl : sl ≤ 300000) (hc : fm_Cx D ad C nb (fun q : Nat => s.heap.size ≤ q) s) (hw : fm_at D ad C nb M H) (hI : fm_I nb ad M) (hS : va_S (fun q : Nat => s.heap.size ≤ q) s.heap H locs) (hi : 0 ≤ i.toInt ∧ i.toInt + 6 ≤ L) (hL : L ≤ 3072) (hrel : M.1 0 0 10 = M.1 60 0 16 ∧ (∀ j : Nat, j < nb → M.1 50 j 0 = M.1 110 0 j) ∧ (∀ j : Nat, j < nb → M.1 50 j 3 = M.1 113 0 j)) (kk : ∀ (M1 : fm_M) (H1 : Heap) (locs1 : List Loc), fm_at D ad C nb M1 H1 → fm_I nb ad M1 → va_S (fun q : Nat => s.heap.size ≤ q) s.heap H1 locs1 → M1.1 0 0 10 = M1.1 60 0 16 ∧ (∀ j : Nat, j < nb → M1.1 50 j 0 = M1.1 110 0 j) ∧ (∀ j : Nat, j < nb → M1.1 50 j 3 = M1.1 113 0 j) → ∀ ls : Array Slot, lv_has ls 4 [(3, .int i), (2, .ref (ad 60 0)), (1, .ref (ad 0 0)), (0, .ref b)] → W p l e room_1 s m #[Value.ref b] below meth c H1 locs1 kc sl (lw_Z below #[Value.ref b] s) (F0 m 1834 ls [])) (ls : Array Slot) (hl : lv_has ls 4 [(3, .int i), (2, .ref (ad 60 0)), (1, .ref (ad 0 0)), (0, .ref b)]) : W p l e room_1 s m #[Value.ref b] below meth c H locs kc sl (lw_Z below #[Value.ref b] s) (F0 m 1381 ls []) := by
  obtain ⟨hx, hb, hr, hml, hown, hts, hX, hbl, hlocks, hgv⟩ := id C0
  have hown : s.vm.findClass RL = some m.cls := hown
  have hb : c.code = cL_law := hb
  have hbA : ¬ (fun q : Nat => s.heap.size ≤ q) b := Nat.not_le.mpr hbl
  have hk1 : kc + 0 ≤ room_1.cells := by show kc + 0 ≤ 600000; omega
  have hs1 : sl + 0 ≤ room_1.slots := by show sl + 0 ≤ 7302250; omega
  have hI0 := hI
  refine lv_aload_n hx hb dL_law_1381 rfl (lv_at hl 2 rfl) ?_
  refine lv_aload_n hx hb dL_law_1382 rfl (lv_at hl 3 rfl) ?_
  refine lv_iload_n hx hb dL_law_1383 rfl (lv_at hl 0 rfl) ?_
  refine lv_iconst (v := 1) hx hb dL_law_1384 (by decide) ?_
  refine fx_iadd hx hb dL_law_1385 rfl zk_1 (by omega) (fun y1 ey1 ty1 => ?_)
  refine va_sld hx hb hX hbl hbA hS (fm_in (by omega)) dL_law_1386 ?_
  refine lv_topi (fun x2 ex2 => ?_)
  refine lv_aload_n hx hb dL_law_1387 rfl (lv_at hl 3 rfl) ?_
  refine lv_iload_n hx hb dL_law_1388 rfl (lv_at hl 0 rfl) ?_
  refine lv_iconst (v := 2) hx hb dL_law_1389 (by decide) ?_
  refine fx_iadd hx hb dL_law_1390 rfl zk_2 (by omega) (fun y3 ey3 ty3 => ?_)
  refine va_sld hx hb hX hbl hbA hS (fm_in (by omega)) dL_law_1391 ?_
  refine lv_topi (fun x4 ex4 => ?_)
  refine lv_aload_n hx hb dL_law_1392 rfl (lv_at hl 3 rfl) ?_
  refine lv_iload_n hx hb dL_law_1393 rfl (lv_at hl 0 rfl) ?_
  refine lv_iconst (v := 3) hx hb dL_law_1394 (by decide) ?_
  refine fx_iadd hx hb dL_law_1395 rfl zk_3 (by omega) (fun y5 ey5 ty5 => ?_)
  refine va_sld hx hb hX hbl hbA hS (fm_in (by omega)) dL_law_1396 ?_
  refine lv_topi (fun x6 ex6 => ?_)
  refine fm_ci (va_runV (As := [.int x2, .int x4, .int x6]) (rest := []) ⟨hx, hb, hml, hown, hts⟩ (fc_X11_story l D ad C nb M hI x2 x4 x6) (cwV 3 hts gL_law_X11_story rfl rfl rfl (by decide +kernel) ⟨Nat.le_of_ble_eq_true rfl, Nat.le_of_ble_eq_true rfl⟩) (fm_preV hc hw hS kl_0 sh_0 rfl) rfl rfl hl.1 rfl (lv_room (Nat.le_of_ble_eq_true rfl)) dL_law_1397 ⟨hk1, hs1⟩) hS hc (fun r7 M8 H locs hr7 hw hS => ?_)
  obtain ⟨hI, hEM8, hr7⟩ := hr7
  refine lv_pop hx hb dL_law_1400 rfl ?_
  refine lv_aload_n hx hb dL_law_1401 rfl (lv_at hl 1 rfl) ?_
  refine lv_aload_n hx hb dL_law_1402 rfl (lv_at hl 3 rfl) ?_
  refine lv_iload_n hx hb dL_law_1403 rfl (lv_at hl 0 rfl) ?_
  refine lv_iconst (v := 1) hx hb dL_law_1404 (by decide) ?_
  refine fx_iadd hx hb dL_law_1405 rfl zk_1 (by omega) (fun y9 ey9 ty9 => ?_)
  refine va_sld hx hb hX hbl hbA hS (fm_in (by omega)) dL_law_1406 ?_
  refine lv_topi (fun x10 ex10 => ?_)
  have qx10 : x2 = x10 := by rw [ex10, ex2, ey9, ey1]
  clear ex10
  subst qx10
  refine lv_aload_n hx hb dL_law_1407 rfl (lv_at hl 3 rfl) ?_
  refine lv_iload_n hx hb dL_law_1408 rfl (lv_at hl 0 rfl) ?_
  refine lv_iconst (v := 2) hx hb dL_law_1409 (by decide) ?_
  refine fx_iadd hx hb dL_law_1410 rfl zk_2 (by omega) (fun y11 ey11 ty11 => ?_)
  refine va_sld hx hb hX hbl hbA hS (fm_in (by omega)) dL_law_1411 ?_
  refine lv_topi (fun x12 ex12 => ?_)
  have qx12 : x4 = x12 := by rw [ex12, ex4, ey11, ey3]
  clear ex12
  subst qx12
  refine lv_aload_n hx hb dL_law_1412 rfl (lv_at hl 3 rfl) ?_
  refine lv_iload_n hx hb dL_law_1413 rfl (lv_at hl 0 rfl) ?_
  refine lv_iconst (v := 3) hx hb dL_law_1414 (by decide) ?_
  refine fx_iadd hx hb dL_law_1415 rfl zk_3 (by omega) (fun y13 ey13 ty13 => ?_)
  refine va_sld hx hb hX hbl hbA hS (fm_in (by omega)) dL_law_1416 ?_
  refine lv_topi (fun x14 ex14 => ?_)
  have qx14 : x6 = x14 := by rw [ex14, ex6, ey13, ey5]
  clear ex14
  subst qx14
  refine fm_ci (va_runV (As := [.int x2, .int x4, .int x6]) (rest := []) ⟨hx, hb, hml, hown, hts⟩ (fc_X12_story l D ad C nb M8 hI x2 x4 x6) (cwV 3 hts gL_law_X12_story rfl rfl rfl (by decide +kernel) ⟨Nat.le_of_ble_eq_true rfl, Nat.le_of_ble_eq_true rfl⟩) (fm_preV hc hw hS kl_60 sh_60 rfl) rfl rfl hl.1 rfl (lv_room (Nat.le_of_ble_eq_true rfl)) dL_law_1417 ⟨hk1, hs1⟩) hS hc (fun r15 M16 H locs hr15 hw hS => ?_)
  obtain ⟨hI, hEM16, hr15⟩ := hr15
  refine lv_pop hx hb dL_law_1420 rfl ?_
  refine lv_goto (tgt := 1834) hx hb dL_law_1421 (by decide) ?_
  have hr90 : M16.1 0 0 10 = M16.1 60 0 16 := by rw [(hEM16 0 0 10 (by decide)).1, (hEM8 0 0 10 (by decide)).1, (hEM16 60 0 16 (by decide)).1, (hEM8 60 0 16 (by decide)).1]; exact hrel.1
  have hr91 : (∀ j : Nat, j < nb → M16.1 50 j 0 = M16.1 110 0 j) := fun j hj => by rw [(hEM16 50 j 0 (by decide)).1, (hEM8 50 j 0 (by decide)).1, (hEM16 110 0 j (by rw [cd_110]; decide)).1, (hEM8 110 0 j (by rw [cd_110]; decide)).1]; exact hrel.2.1 j hj
  have hr92 : (∀ j : Nat, j < nb → M16.1 50 j 3 = M16.1 113 0 j) := fun j hj => by rw [(hEM16 50 j 3 (by decide)).1, (hEM8 50 j 3 (by decide)).1, (hEM16 113 0 j (by rw [cd_113]; decide)).1, (hEM8 113 0 j (by rw [cd_113]; decide)).1]; exact hrel.2.2 j hj
  have hrel9 : M16.1 0 0 10 = M16.1 60 0 16 ∧ (∀ j : Nat, j < nb → M16.1 50 j 0 = M16.1 110 0 j) ∧ (∀ j : Nat, j < nb → M16.1 50 j 3 = M16.1 113 0 j) := ⟨hr90, hr91, hr92⟩
  exact kk M16 _ _ hw hI hS hrel9 ls (lv_sub hl [0, 1, 2, 3] rfl)
set_option maxHeartbeats 1000000 in
set_option maxRecDepth 20000 in
theorem lb_28 {p : Program} {l : Launch} {e : Env} {s : State} {m : MethodId} {below : List Frame} {meth : Method} {c : Code} {D : va_G} {ad : Nat → Nat → Nat} {C : Nat → Nat → ClassId} {nb : Nat} {M : fm_M} {b L : Nat} {xs : Nat → Int32} {H : Heap} {locs : List Loc} {kc sl : Nat} {i : Int32} (C0 : lw_At p s m meth c b L xs) (hkc : kc ≤ 10000) (hsl : sl ≤ 300000) (hc : fm_Cx D ad C nb (fun q : Nat => s.heap.size ≤ q) s) (hw : fm_at D ad C nb M H) (hI : fm_I nb ad M) (hS : va_S (fun q : Nat => s.heap.size ≤ q) s.heap H locs) (hi : 0 ≤ i.toInt ∧ i.toInt + 6 ≤ L) (hL : L ≤ 3072) (hrel : M.1 0 0 10 = M.1 60 0 16 ∧ (∀ j : Nat, j < nb → M.1 50 j 0 = M.1 110 0 j) ∧ (∀ j : Nat, j < nb → M.1 50 j 3 = M.1 113 0 j)) (kk : ∀ (M1 : fm_M) (H1 : Heap) (locs1 : List Loc), fm_at D ad C nb M1 H1 → fm_I nb ad M1 → va_S (fun q : Nat => s.heap.size ≤ q) s.heap H1 locs1 → M1.1 0 0 10 = M1.1 60 0 16 ∧ (∀ j : Nat, j < nb → M1.1 50 j 0 = M1.1 110 0 j) ∧ (∀ j : Nat, j < nb → M1.1 50 j 3 = M1.1 113 0 j) → ∀ ls : Array Slot, lv_has ls 4 [(3, .int i), (2, .ref (ad 60 0)), (1, .ref (ad 0 0)), (0, .ref b)] → W p l e room_1 s m #[Value.ref b] below meth c H1 locs1 kc sl (lw_Z below #[Value.ref b] s) (F0 m 1834 ls [])) (ls : Array Slot) (hl : lv_has ls 4 [(3, .int i), (2, .ref (ad 60 0)), (1, .ref (ad 0 0)), (0, .ref b)]) : W p l e room_1 s m #[Value.ref b] below meth c H locs kc sl (lw_Z below #[Value.ref b] s) (F0 m 1424 ls []) := by
  obtain ⟨hx, hb, hr, hml, hown, hts, hX, hbl, hlocks, hgv⟩ := id C0
  have hown : s.vm.findClass RL = some m.cls := hown
  have hb : c.code = cL_law := hb
  have hbA : ¬ (fun q : Nat => s.heap.size ≤ q) b := Nat.not_le.mpr hbl
  have hk1 : kc + 0 ≤ room_1.cells := by show kc + 0 ≤ 600000; omega
  have hs1 : sl + 0 ≤ room_1.slots := by show sl + 0 ≤ 7302250; omega
  have hI0 := hI
  refine lv_aload_n hx hb dL_law_1424 rfl (lv_at hl 2 rfl) ?_
  refine fm_ci (va_runV (As := []) (rest := []) ⟨hx, hb, hml, hown, hts⟩ (fc_X11_unfit l D ad C nb M hI) (cwV 0 hts gL_law_X11_unfit rfl rfl rfl (by decide +kernel) ⟨Nat.le_of_ble_eq_true rfl, Nat.le_of_ble_eq_true rfl⟩) (fm_preV hc hw hS kl_0 sh_0 rfl) rfl rfl hl.1 rfl (lv_room (Nat.le_of_ble_eq_true rfl)) dL_law_1425 ⟨hk1, hs1⟩) hS hc (fun r1 M2 H locs hr1 hw hS => ?_)
  obtain ⟨hI, hEM2, hr1⟩ := hr1
  refine lv_pop hx hb dL_law_1428 rfl ?_
  refine lv_aload_n hx hb dL_law_1429 rfl (lv_at hl 1 rfl) ?_
  refine vp_callSi (va_Run.run (va_runV (As := []) (rest := []) ⟨hx, hb, hml, hown, hts⟩ (fc_X12_unfit l D ad C nb M2 hI) (cwV 0 hts gL_law_X12_unfit rfl rfl rfl (by decide +kernel) ⟨Nat.le_of_ble_eq_true rfl, Nat.le_of_ble_eq_true rfl⟩) (fm_preV hc hw hS kl_60 sh_60 rfl) rfl rfl hl.1 rfl (lv_room (Nat.le_of_ble_eq_true rfl)) dL_law_1430 ⟨hk1, hs1⟩)) (fun r3 hr3 => ?_)
  refine lv_pop hx hb dL_law_1433 rfl ?_
  refine lv_goto (tgt := 1834) hx hb dL_law_1434 (by decide) ?_
  have hr90 : M2.1 0 0 10 = M2.1 60 0 16 := by rw [(hEM2 0 0 10 (by decide)).1, (hEM2 60 0 16 (by decide)).1]; exact hrel.1
  have hr91 : (∀ j : Nat, j < nb → M2.1 50 j 0 = M2.1 110 0 j) := fun j hj => by rw [(hEM2 50 j 0 (by decide)).1, (hEM2 110 0 j (by rw [cd_110]; decide)).1]; exact hrel.2.1 j hj
  have hr92 : (∀ j : Nat, j < nb → M2.1 50 j 3 = M2.1 113 0 j) := fun j hj => by rw [(hEM2 50 j 3 (by decide)).1, (hEM2 113 0 j (by rw [cd_113]; decide)).1]; exact hrel.2.2 j hj
  have hrel9 : M2.1 0 0 10 = M2.1 60 0 16 ∧ (∀ j : Nat, j < nb → M2.1 50 j 0 = M2.1 110 0 j) ∧ (∀ j : Nat, j < nb → M2.1 50 j 3 = M2.1 113 0 j) := ⟨hr90, hr91, hr92⟩
  exact kk M2 _ _ hw hI hS hrel9 ls (lv_sub hl [0, 1, 2, 3] rfl)

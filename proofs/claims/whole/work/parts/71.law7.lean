theorem d_L_law_1029 : decode b_L_law 1029 = .ok (.ireturn, 1) := by decide +kernel
theorem d_L_law_1030 : decode b_L_law 1030 = .ok (.goto 209, 3) := by decide +kernel
theorem d_L_law_1033 : decode b_L_law 1033 = .ok (.aload_n 1, 1) := by decide +kernel
theorem d_L_law_1034 : decode b_L_law 1034 = .ok (.aload_n 0, 1) := by decide +kernel
theorem d_L_law_1035 : decode b_L_law 1035 = .ok (.iload 4, 2) := by decide +kernel
theorem d_L_law_1037 : decode b_L_law 1037 = .ok (.iconst 1, 1) := by decide +kernel
theorem d_L_law_1038 : decode b_L_law 1038 = .ok (.iadd, 1) := by decide +kernel
theorem d_L_law_1039 : decode b_L_law 1039 = .ok (.iaload, 1) := by decide +kernel
theorem d_L_law_1040 : decode b_L_law 1040 = .ok (.aload_n 0, 1) := by decide +kernel
theorem d_L_law_1041 : decode b_L_law 1041 = .ok (.iload 4, 2) := by decide +kernel
theorem d_L_law_1043 : decode b_L_law 1043 = .ok (.iconst 2, 1) := by decide +kernel
theorem d_L_law_1044 : decode b_L_law 1044 = .ok (.iadd, 1) := by decide +kernel
theorem d_L_law_1045 : decode b_L_law 1045 = .ok (.iaload, 1) := by decide +kernel
theorem d_L_law_1046 : decode b_L_law 1046 = .ok (.ifCond .eq 7, 3) := by decide +kernel
theorem d_L_law_1049 : decode b_L_law 1049 = .ok (.iconst 1, 1) := by decide +kernel
theorem d_L_law_1050 : decode b_L_law 1050 = .ok (.goto 4, 3) := by decide +kernel
theorem d_L_law_1053 : decode b_L_law 1053 = .ok (.iconst 0, 1) := by decide +kernel
theorem d_L_law_1054 : decode b_L_law 1054 = .ok (.aload_n 3, 1) := by decide +kernel
theorem d_L_law_1055 : decode b_L_law 1055 = .ok (.invokestatic 123, 3) := by decide +kernel
theorem d_L_law_1058 : decode b_L_law 1058 = .ok (.istore 5, 2) := by decide +kernel
theorem d_L_law_1060 : decode b_L_law 1060 = .ok (.aload_n 2, 1) := by decide +kernel
theorem d_L_law_1061 : decode b_L_law 1061 = .ok (.aload_n 0, 1) := by decide +kernel
theorem d_L_law_1062 : decode b_L_law 1062 = .ok (.iload 4, 2) := by decide +kernel
theorem d_L_law_1064 : decode b_L_law 1064 = .ok (.iconst 1, 1) := by decide +kernel
theorem d_L_law_1065 : decode b_L_law 1065 = .ok (.iadd, 1) := by decide +kernel
theorem d_L_law_1066 : decode b_L_law 1066 = .ok (.iaload, 1) := by decide +kernel
theorem d_L_law_1067 : decode b_L_law 1067 = .ok (.aload_n 0, 1) := by decide +kernel
theorem d_L_law_1068 : decode b_L_law 1068 = .ok (.iload 4, 2) := by decide +kernel
theorem d_L_law_1070 : decode b_L_law 1070 = .ok (.iconst 2, 1) := by decide +kernel
theorem d_L_law_1071 : decode b_L_law 1071 = .ok (.iadd, 1) := by decide +kernel
theorem d_L_law_1072 : decode b_L_law 1072 = .ok (.iaload, 1) := by decide +kernel
theorem d_L_law_1073 : decode b_L_law 1073 = .ok (.ifCond .eq 7, 3) := by decide +kernel
theorem d_L_law_1076 : decode b_L_law 1076 = .ok (.iconst 1, 1) := by decide +kernel
theorem d_L_law_1077 : decode b_L_law 1077 = .ok (.goto 4, 3) := by decide +kernel
theorem d_L_law_1080 : decode b_L_law 1080 = .ok (.iconst 0, 1) := by decide +kernel
theorem d_L_law_1081 : decode b_L_law 1081 = .ok (.invokevirtual 125, 3) := by decide +kernel
theorem d_L_law_1084 : decode b_L_law 1084 = .ok (.istore 6, 2) := by decide +kernel
theorem d_L_law_1086 : decode b_L_law 1086 = .ok (.aload_n 2, 1) := by decide +kernel
theorem d_L_law_1087 : decode b_L_law 1087 = .ok (.invokevirtual 72, 3) := by decide +kernel
theorem d_L_law_1090 : decode b_L_law 1090 = .ok (.iload 5, 2) := by decide +kernel
theorem d_L_law_1092 : decode b_L_law 1092 = .ok (.if_icmp .eq 5, 3) := by decide +kernel
theorem d_L_law_1095 : decode b_L_law 1095 = .ok (.iconst 0, 1) := by decide +kernel
theorem d_L_law_1096 : decode b_L_law 1096 = .ok (.ireturn, 1) := by decide +kernel
theorem d_L_law_1097 : decode b_L_law 1097 = .ok (.iload 5, 2) := by decide +kernel
theorem d_L_law_1099 : decode b_L_law 1099 = .ok (.ifCond .ne 15, 3) := by decide +kernel
theorem d_L_law_1102 : decode b_L_law 1102 = .ok (.aload_n 3, 1) := by decide +kernel
theorem d_L_law_1103 : decode b_L_law 1103 = .ok (.iconst 0, 1) := by decide +kernel
theorem d_L_law_1104 : decode b_L_law 1104 = .ok (.laload, 1) := by decide +kernel
theorem d_L_law_1105 : decode b_L_law 1105 = .ok (.iload 6, 2) := by decide +kernel
theorem d_L_law_1107 : decode b_L_law 1107 = .ok (.i2l, 1) := by decide +kernel
theorem d_L_law_1108 : decode b_L_law 1108 = .ok (.lcmp, 1) := by decide +kernel
theorem d_L_law_1109 : decode b_L_law 1109 = .ok (.ifCond .eq 5, 3) := by decide +kernel
theorem d_L_law_1112 : decode b_L_law 1112 = .ok (.iconst 0, 1) := by decide +kernel
theorem d_L_law_1113 : decode b_L_law 1113 = .ok (.ireturn, 1) := by decide +kernel
theorem d_L_law_1114 : decode b_L_law 1114 = .ok (.goto 125, 3) := by decide +kernel
theorem d_L_law_1117 : decode b_L_law 1117 = .ok (.aload_n 1, 1) := by decide +kernel
theorem d_L_law_1118 : decode b_L_law 1118 = .ok (.invokevirtual 126, 3) := by decide +kernel
theorem d_L_law_1121 : decode b_L_law 1121 = .ok (.aload_n 2, 1) := by decide +kernel
theorem d_L_law_1122 : decode b_L_law 1122 = .ok (.invokevirtual 130, 3) := by decide +kernel
theorem d_L_law_1125 : decode b_L_law 1125 = .ok (.if_icmp .eq 114, 3) := by decide +kernel
theorem d_L_law_1128 : decode b_L_law 1128 = .ok (.iconst 0, 1) := by decide +kernel
theorem d_L_law_1129 : decode b_L_law 1129 = .ok (.ireturn, 1) := by decide +kernel
theorem d_L_law_1130 : decode b_L_law 1130 = .ok (.aload_n 1, 1) := by decide +kernel
theorem d_L_law_1131 : decode b_L_law 1131 = .ok (.aload_n 0, 1) := by decide +kernel
theorem d_L_law_1132 : decode b_L_law 1132 = .ok (.iload 4, 2) := by decide +kernel
theorem d_L_law_1134 : decode b_L_law 1134 = .ok (.iconst 1, 1) := by decide +kernel
theorem d_L_law_1135 : decode b_L_law 1135 = .ok (.iadd, 1) := by decide +kernel
theorem d_L_law_1136 : decode b_L_law 1136 = .ok (.iaload, 1) := by decide +kernel
theorem d_L_law_1137 : decode b_L_law 1137 = .ok (.aload_n 0, 1) := by decide +kernel
theorem d_L_law_1138 : decode b_L_law 1138 = .ok (.iload 4, 2) := by decide +kernel
theorem d_L_law_1140 : decode b_L_law 1140 = .ok (.iconst 2, 1) := by decide +kernel
theorem d_L_law_1141 : decode b_L_law 1141 = .ok (.iadd, 1) := by decide +kernel
theorem d_L_law_1142 : decode b_L_law 1142 = .ok (.iaload, 1) := by decide +kernel
theorem d_L_law_1143 : decode b_L_law 1143 = .ok (.ifCond .eq 7, 3) := by decide +kernel
theorem d_L_law_1146 : decode b_L_law 1146 = .ok (.iconst 1, 1) := by decide +kernel
theorem d_L_law_1147 : decode b_L_law 1147 = .ok (.goto 4, 3) := by decide +kernel
theorem d_L_law_1150 : decode b_L_law 1150 = .ok (.iconst 0, 1) := by decide +kernel
theorem d_L_law_1151 : decode b_L_law 1151 = .ok (.aload_n 3, 1) := by decide +kernel
theorem d_L_law_1152 : decode b_L_law 1152 = .ok (.invokestatic 131, 3) := by decide +kernel
theorem d_L_law_1155 : decode b_L_law 1155 = .ok (.istore 5, 2) := by decide +kernel
theorem d_L_law_1157 : decode b_L_law 1157 = .ok (.aload_n 2, 1) := by decide +kernel
theorem d_L_law_1158 : decode b_L_law 1158 = .ok (.aload_n 0, 1) := by decide +kernel
theorem d_L_law_1159 : decode b_L_law 1159 = .ok (.iload 4, 2) := by decide +kernel
theorem d_L_law_1161 : decode b_L_law 1161 = .ok (.iconst 1, 1) := by decide +kernel
theorem d_L_law_1162 : decode b_L_law 1162 = .ok (.iadd, 1) := by decide +kernel
theorem d_L_law_1163 : decode b_L_law 1163 = .ok (.iaload, 1) := by decide +kernel
theorem d_L_law_1164 : decode b_L_law 1164 = .ok (.aload_n 0, 1) := by decide +kernel
theorem d_L_law_1165 : decode b_L_law 1165 = .ok (.iload 4, 2) := by decide +kernel
theorem d_L_law_1167 : decode b_L_law 1167 = .ok (.iconst 2, 1) := by decide +kernel
theorem d_L_law_1168 : decode b_L_law 1168 = .ok (.iadd, 1) := by decide +kernel
theorem d_L_law_1169 : decode b_L_law 1169 = .ok (.iaload, 1) := by decide +kernel
theorem d_L_law_1170 : decode b_L_law 1170 = .ok (.ifCond .eq 7, 3) := by decide +kernel
theorem d_L_law_1173 : decode b_L_law 1173 = .ok (.iconst 1, 1) := by decide +kernel
theorem d_L_law_1174 : decode b_L_law 1174 = .ok (.goto 4, 3) := by decide +kernel
theorem d_L_law_1177 : decode b_L_law 1177 = .ok (.iconst 0, 1) := by decide +kernel
theorem d_L_law_1178 : decode b_L_law 1178 = .ok (.invokevirtual 133, 3) := by decide +kernel
theorem d_L_law_1181 : decode b_L_law 1181 = .ok (.istore 6, 2) := by decide +kernel
theorem d_L_law_1183 : decode b_L_law 1183 = .ok (.aload_n 2, 1) := by decide +kernel
theorem d_L_law_1184 : decode b_L_law 1184 = .ok (.invokevirtual 72, 3) := by decide +kernel
theorem d_L_law_1187 : decode b_L_law 1187 = .ok (.iload 5, 2) := by decide +kernel

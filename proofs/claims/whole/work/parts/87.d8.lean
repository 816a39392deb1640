/-! law: decode rows -/
theorem dLW_law_1069 : decode cLW_law 1069 = .ok (.iconst 1, 1) := by decide +kernel
theorem dLW_law_1070 : decode cLW_law 1070 = .ok (.iadd, 1) := by decide +kernel
theorem dLW_law_1071 : decode cLW_law 1071 = .ok (.iaload, 1) := by decide +kernel
theorem dLW_law_1072 : decode cLW_law 1072 = .ok (.aload_n 0, 1) := by decide +kernel
theorem dLW_law_1073 : decode cLW_law 1073 = .ok (.iload 4, 2) := by decide +kernel
theorem dLW_law_1075 : decode cLW_law 1075 = .ok (.iconst 2, 1) := by decide +kernel
theorem dLW_law_1076 : decode cLW_law 1076 = .ok (.iadd, 1) := by decide +kernel
theorem dLW_law_1077 : decode cLW_law 1077 = .ok (.iaload, 1) := by decide +kernel
theorem dLW_law_1078 : decode cLW_law 1078 = .ok (.aload_n 3, 1) := by decide +kernel
theorem dLW_law_1079 : decode cLW_law 1079 = .ok (.invokestatic 121, 3) := by decide +kernel
theorem dLW_law_1082 : decode cLW_law 1082 = .ok (.istore 5, 2) := by decide +kernel
theorem dLW_law_1084 : decode cLW_law 1084 = .ok (.aload_n 2, 1) := by decide +kernel
theorem dLW_law_1085 : decode cLW_law 1085 = .ok (.aload_n 0, 1) := by decide +kernel
theorem dLW_law_1086 : decode cLW_law 1086 = .ok (.iload 4, 2) := by decide +kernel
theorem dLW_law_1088 : decode cLW_law 1088 = .ok (.iconst 1, 1) := by decide +kernel
theorem dLW_law_1089 : decode cLW_law 1089 = .ok (.iadd, 1) := by decide +kernel
theorem dLW_law_1090 : decode cLW_law 1090 = .ok (.iaload, 1) := by decide +kernel
theorem dLW_law_1091 : decode cLW_law 1091 = .ok (.aload_n 0, 1) := by decide +kernel
theorem dLW_law_1092 : decode cLW_law 1092 = .ok (.iload 4, 2) := by decide +kernel
theorem dLW_law_1094 : decode cLW_law 1094 = .ok (.iconst 2, 1) := by decide +kernel
theorem dLW_law_1095 : decode cLW_law 1095 = .ok (.iadd, 1) := by decide +kernel
theorem dLW_law_1096 : decode cLW_law 1096 = .ok (.iaload, 1) := by decide +kernel
theorem dLW_law_1097 : decode cLW_law 1097 = .ok (.invokevirtual 123, 3) := by decide +kernel
theorem dLW_law_1100 : decode cLW_law 1100 = .ok (.lstore 6, 2) := by decide +kernel
theorem dLW_law_1102 : decode cLW_law 1102 = .ok (.aload_n 2, 1) := by decide +kernel
theorem dLW_law_1103 : decode cLW_law 1103 = .ok (.invokevirtual 76, 3) := by decide +kernel
theorem dLW_law_1106 : decode cLW_law 1106 = .ok (.iload 5, 2) := by decide +kernel
theorem dLW_law_1108 : decode cLW_law 1108 = .ok (.if_icmp .eq 5, 3) := by decide +kernel
theorem dLW_law_1111 : decode cLW_law 1111 = .ok (.iconst 0, 1) := by decide +kernel
theorem dLW_law_1112 : decode cLW_law 1112 = .ok (.ireturn, 1) := by decide +kernel
theorem dLW_law_1113 : decode cLW_law 1113 = .ok (.iload 5, 2) := by decide +kernel
theorem dLW_law_1115 : decode cLW_law 1115 = .ok (.ifCond .ne 14, 3) := by decide +kernel
theorem dLW_law_1118 : decode cLW_law 1118 = .ok (.aload_n 3, 1) := by decide +kernel
theorem dLW_law_1119 : decode cLW_law 1119 = .ok (.iconst 0, 1) := by decide +kernel
theorem dLW_law_1120 : decode cLW_law 1120 = .ok (.laload, 1) := by decide +kernel
theorem dLW_law_1121 : decode cLW_law 1121 = .ok (.lload 6, 2) := by decide +kernel
theorem dLW_law_1123 : decode cLW_law 1123 = .ok (.lcmp, 1) := by decide +kernel
theorem dLW_law_1124 : decode cLW_law 1124 = .ok (.ifCond .eq 5, 3) := by decide +kernel
theorem dLW_law_1127 : decode cLW_law 1127 = .ok (.iconst 0, 1) := by decide +kernel
theorem dLW_law_1128 : decode cLW_law 1128 = .ok (.ireturn, 1) := by decide +kernel
theorem dLW_law_1129 : decode cLW_law 1129 = .ok (.goto 213, 3) := by decide +kernel
theorem dLW_law_1132 : decode cLW_law 1132 = .ok (.aload_n 1, 1) := by decide +kernel
theorem dLW_law_1133 : decode cLW_law 1133 = .ok (.aload_n 0, 1) := by decide +kernel
theorem dLW_law_1134 : decode cLW_law 1134 = .ok (.iload 4, 2) := by decide +kernel
theorem dLW_law_1136 : decode cLW_law 1136 = .ok (.iconst 1, 1) := by decide +kernel
theorem dLW_law_1137 : decode cLW_law 1137 = .ok (.iadd, 1) := by decide +kernel
theorem dLW_law_1138 : decode cLW_law 1138 = .ok (.iaload, 1) := by decide +kernel
theorem dLW_law_1139 : decode cLW_law 1139 = .ok (.aload_n 0, 1) := by decide +kernel
theorem dLW_law_1140 : decode cLW_law 1140 = .ok (.iload 4, 2) := by decide +kernel
theorem dLW_law_1142 : decode cLW_law 1142 = .ok (.iconst 2, 1) := by decide +kernel
theorem dLW_law_1143 : decode cLW_law 1143 = .ok (.iadd, 1) := by decide +kernel
theorem dLW_law_1144 : decode cLW_law 1144 = .ok (.iaload, 1) := by decide +kernel
theorem dLW_law_1145 : decode cLW_law 1145 = .ok (.i2l, 1) := by decide +kernel
theorem dLW_law_1146 : decode cLW_law 1146 = .ok (.bipush 32, 2) := by decide +kernel
theorem dLW_law_1148 : decode cLW_law 1148 = .ok (.lshl, 1) := by decide +kernel
theorem dLW_law_1149 : decode cLW_law 1149 = .ok (.aload_n 0, 1) := by decide +kernel
theorem dLW_law_1150 : decode cLW_law 1150 = .ok (.iload 4, 2) := by decide +kernel
theorem dLW_law_1152 : decode cLW_law 1152 = .ok (.iconst 3, 1) := by decide +kernel
theorem dLW_law_1153 : decode cLW_law 1153 = .ok (.iadd, 1) := by decide +kernel
theorem dLW_law_1154 : decode cLW_law 1154 = .ok (.iaload, 1) := by decide +kernel
theorem dLW_law_1155 : decode cLW_law 1155 = .ok (.i2l, 1) := by decide +kernel
theorem dLW_law_1156 : decode cLW_law 1156 = .ok (.ldc2_w 68, 3) := by decide +kernel
theorem dLW_law_1159 : decode cLW_law 1159 = .ok (.land, 1) := by decide +kernel
theorem dLW_law_1160 : decode cLW_law 1160 = .ok (.lor, 1) := by decide +kernel
theorem dLW_law_1161 : decode cLW_law 1161 = .ok (.aload_n 0, 1) := by decide +kernel
theorem dLW_law_1162 : decode cLW_law 1162 = .ok (.iload 4, 2) := by decide +kernel
theorem dLW_law_1164 : decode cLW_law 1164 = .ok (.iconst 4, 1) := by decide +kernel
theorem dLW_law_1165 : decode cLW_law 1165 = .ok (.iadd, 1) := by decide +kernel
theorem dLW_law_1166 : decode cLW_law 1166 = .ok (.iaload, 1) := by decide +kernel
theorem dLW_law_1167 : decode cLW_law 1167 = .ok (.i2l, 1) := by decide +kernel
theorem dLW_law_1168 : decode cLW_law 1168 = .ok (.bipush 32, 2) := by decide +kernel
theorem dLW_law_1170 : decode cLW_law 1170 = .ok (.lshl, 1) := by decide +kernel
theorem dLW_law_1171 : decode cLW_law 1171 = .ok (.aload_n 0, 1) := by decide +kernel
theorem dLW_law_1172 : decode cLW_law 1172 = .ok (.iload 4, 2) := by decide +kernel
theorem dLW_law_1174 : decode cLW_law 1174 = .ok (.iconst 5, 1) := by decide +kernel
theorem dLW_law_1175 : decode cLW_law 1175 = .ok (.iadd, 1) := by decide +kernel
theorem dLW_law_1176 : decode cLW_law 1176 = .ok (.iaload, 1) := by decide +kernel
theorem dLW_law_1177 : decode cLW_law 1177 = .ok (.i2l, 1) := by decide +kernel
theorem dLW_law_1178 : decode cLW_law 1178 = .ok (.ldc2_w 68, 3) := by decide +kernel
theorem dLW_law_1181 : decode cLW_law 1181 = .ok (.land, 1) := by decide +kernel
theorem dLW_law_1182 : decode cLW_law 1182 = .ok (.lor, 1) := by decide +kernel
theorem dLW_law_1183 : decode cLW_law 1183 = .ok (.aload_n 0, 1) := by decide +kernel
theorem dLW_law_1184 : decode cLW_law 1184 = .ok (.iload 4, 2) := by decide +kernel
theorem dLW_law_1186 : decode cLW_law 1186 = .ok (.bipush 6, 2) := by decide +kernel
theorem dLW_law_1188 : decode cLW_law 1188 = .ok (.iadd, 1) := by decide +kernel
theorem dLW_law_1189 : decode cLW_law 1189 = .ok (.iaload, 1) := by decide +kernel
theorem dLW_law_1190 : decode cLW_law 1190 = .ok (.ifCond .eq 7, 3) := by decide +kernel
theorem dLW_law_1193 : decode cLW_law 1193 = .ok (.iconst 1, 1) := by decide +kernel
theorem dLW_law_1194 : decode cLW_law 1194 = .ok (.goto 4, 3) := by decide +kernel
theorem dLW_law_1197 : decode cLW_law 1197 = .ok (.iconst 0, 1) := by decide +kernel
theorem dLW_law_1198 : decode cLW_law 1198 = .ok (.aload_n 3, 1) := by decide +kernel
theorem dLW_law_1199 : decode cLW_law 1199 = .ok (.invokestatic 124, 3) := by decide +kernel
theorem dLW_law_1202 : decode cLW_law 1202 = .ok (.istore 5, 2) := by decide +kernel
theorem dLW_law_1204 : decode cLW_law 1204 = .ok (.aload_n 2, 1) := by decide +kernel
theorem dLW_law_1205 : decode cLW_law 1205 = .ok (.aload_n 0, 1) := by decide +kernel
theorem dLW_law_1206 : decode cLW_law 1206 = .ok (.iload 4, 2) := by decide +kernel

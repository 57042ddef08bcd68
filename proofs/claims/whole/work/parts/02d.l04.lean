theorem dL_law__1066 : decode cL_law_ 1066 = .ok (.iconst 1, 1) := by decide +kernel
theorem dL_law__1067 : decode cL_law_ 1067 = .ok (.iadd, 1) := by decide +kernel
theorem dL_law__1068 : decode cL_law_ 1068 = .ok (.iaload, 1) := by decide +kernel
theorem dL_law__1069 : decode cL_law_ 1069 = .ok (.aload_n 0, 1) := by decide +kernel
theorem dL_law__1070 : decode cL_law_ 1070 = .ok (.iload 4, 2) := by decide +kernel
theorem dL_law__1072 : decode cL_law_ 1072 = .ok (.iconst 2, 1) := by decide +kernel
theorem dL_law__1073 : decode cL_law_ 1073 = .ok (.iadd, 1) := by decide +kernel
theorem dL_law__1074 : decode cL_law_ 1074 = .ok (.iaload, 1) := by decide +kernel
theorem dL_law__1075 : decode cL_law_ 1075 = .ok (.aload_n 3, 1) := by decide +kernel
theorem dL_law__1076 : decode cL_law_ 1076 = .ok (.invokestatic 165, 3) := by decide +kernel
theorem dL_law__1079 : decode cL_law_ 1079 = .ok (.istore 5, 2) := by decide +kernel
theorem dL_law__1081 : decode cL_law_ 1081 = .ok (.aload_n 2, 1) := by decide +kernel
theorem dL_law__1082 : decode cL_law_ 1082 = .ok (.aload_n 0, 1) := by decide +kernel
theorem dL_law__1083 : decode cL_law_ 1083 = .ok (.iload 4, 2) := by decide +kernel
theorem dL_law__1085 : decode cL_law_ 1085 = .ok (.iconst 1, 1) := by decide +kernel
theorem dL_law__1086 : decode cL_law_ 1086 = .ok (.iadd, 1) := by decide +kernel
theorem dL_law__1087 : decode cL_law_ 1087 = .ok (.iaload, 1) := by decide +kernel
theorem dL_law__1088 : decode cL_law_ 1088 = .ok (.aload_n 0, 1) := by decide +kernel
theorem dL_law__1089 : decode cL_law_ 1089 = .ok (.iload 4, 2) := by decide +kernel
theorem dL_law__1091 : decode cL_law_ 1091 = .ok (.iconst 2, 1) := by decide +kernel
theorem dL_law__1092 : decode cL_law_ 1092 = .ok (.iadd, 1) := by decide +kernel
theorem dL_law__1093 : decode cL_law_ 1093 = .ok (.iaload, 1) := by decide +kernel
theorem dL_law__1094 : decode cL_law_ 1094 = .ok (.invokevirtual 167, 3) := by decide +kernel
theorem dL_law__1097 : decode cL_law_ 1097 = .ok (.istore 6, 2) := by decide +kernel
theorem dL_law__1099 : decode cL_law_ 1099 = .ok (.aload_n 2, 1) := by decide +kernel
theorem dL_law__1100 : decode cL_law_ 1100 = .ok (.invokevirtual 122, 3) := by decide +kernel
theorem dL_law__1103 : decode cL_law_ 1103 = .ok (.iload 5, 2) := by decide +kernel
theorem dL_law__1105 : decode cL_law_ 1105 = .ok (.if_icmp .eq 5, 3) := by decide +kernel
theorem dL_law__1108 : decode cL_law_ 1108 = .ok (.iconst 0, 1) := by decide +kernel
theorem dL_law__1109 : decode cL_law_ 1109 = .ok (.ireturn, 1) := by decide +kernel
theorem dL_law__1110 : decode cL_law_ 1110 = .ok (.iload 5, 2) := by decide +kernel
theorem dL_law__1112 : decode cL_law_ 1112 = .ok (.ifCond .ne 15, 3) := by decide +kernel
theorem dL_law__1115 : decode cL_law_ 1115 = .ok (.aload_n 3, 1) := by decide +kernel
theorem dL_law__1116 : decode cL_law_ 1116 = .ok (.iconst 0, 1) := by decide +kernel
theorem dL_law__1117 : decode cL_law_ 1117 = .ok (.laload, 1) := by decide +kernel
theorem dL_law__1118 : decode cL_law_ 1118 = .ok (.iload 6, 2) := by decide +kernel
theorem dL_law__1120 : decode cL_law_ 1120 = .ok (.i2l, 1) := by decide +kernel
theorem dL_law__1121 : decode cL_law_ 1121 = .ok (.lcmp, 1) := by decide +kernel
theorem dL_law__1122 : decode cL_law_ 1122 = .ok (.ifCond .eq 5, 3) := by decide +kernel
theorem dL_law__1125 : decode cL_law_ 1125 = .ok (.iconst 0, 1) := by decide +kernel
theorem dL_law__1126 : decode cL_law_ 1126 = .ok (.ireturn, 1) := by decide +kernel
theorem dL_law__1127 : decode cL_law_ 1127 = .ok (.goto 1357, 3) := by decide +kernel
theorem dL_law__1130 : decode cL_law_ 1130 = .ok (.aload_n 1, 1) := by decide +kernel
theorem dL_law__1131 : decode cL_law_ 1131 = .ok (.aload_n 0, 1) := by decide +kernel
theorem dL_law__1132 : decode cL_law_ 1132 = .ok (.iload 4, 2) := by decide +kernel
theorem dL_law__1134 : decode cL_law_ 1134 = .ok (.iconst 1, 1) := by decide +kernel
theorem dL_law__1135 : decode cL_law_ 1135 = .ok (.iadd, 1) := by decide +kernel
theorem dL_law__1136 : decode cL_law_ 1136 = .ok (.iaload, 1) := by decide +kernel
theorem dL_law__1137 : decode cL_law_ 1137 = .ok (.aload_n 0, 1) := by decide +kernel
theorem dL_law__1138 : decode cL_law_ 1138 = .ok (.iload 4, 2) := by decide +kernel
theorem dL_law__1140 : decode cL_law_ 1140 = .ok (.iconst 2, 1) := by decide +kernel
theorem dL_law__1141 : decode cL_law_ 1141 = .ok (.iadd, 1) := by decide +kernel
theorem dL_law__1142 : decode cL_law_ 1142 = .ok (.iaload, 1) := by decide +kernel
theorem dL_law__1143 : decode cL_law_ 1143 = .ok (.aload_n 3, 1) := by decide +kernel
theorem dL_law__1144 : decode cL_law_ 1144 = .ok (.invokestatic 168, 3) := by decide +kernel
theorem dL_law__1147 : decode cL_law_ 1147 = .ok (.istore 5, 2) := by decide +kernel
theorem dL_law__1149 : decode cL_law_ 1149 = .ok (.aload_n 2, 1) := by decide +kernel
theorem dL_law__1150 : decode cL_law_ 1150 = .ok (.aload_n 0, 1) := by decide +kernel
theorem dL_law__1151 : decode cL_law_ 1151 = .ok (.iload 4, 2) := by decide +kernel
theorem dL_law__1153 : decode cL_law_ 1153 = .ok (.iconst 1, 1) := by decide +kernel
theorem dL_law__1154 : decode cL_law_ 1154 = .ok (.iadd, 1) := by decide +kernel
theorem dL_law__1155 : decode cL_law_ 1155 = .ok (.iaload, 1) := by decide +kernel
theorem dL_law__1156 : decode cL_law_ 1156 = .ok (.aload_n 0, 1) := by decide +kernel
theorem dL_law__1157 : decode cL_law_ 1157 = .ok (.iload 4, 2) := by decide +kernel
theorem dL_law__1159 : decode cL_law_ 1159 = .ok (.iconst 2, 1) := by decide +kernel
theorem dL_law__1160 : decode cL_law_ 1160 = .ok (.iadd, 1) := by decide +kernel
theorem dL_law__1161 : decode cL_law_ 1161 = .ok (.iaload, 1) := by decide +kernel
theorem dL_law__1162 : decode cL_law_ 1162 = .ok (.invokevirtual 170, 3) := by decide +kernel
theorem dL_law__1165 : decode cL_law_ 1165 = .ok (.istore 6, 2) := by decide +kernel
theorem dL_law__1167 : decode cL_law_ 1167 = .ok (.aload_n 2, 1) := by decide +kernel
theorem dL_law__1168 : decode cL_law_ 1168 = .ok (.invokevirtual 122, 3) := by decide +kernel
theorem dL_law__1171 : decode cL_law_ 1171 = .ok (.iload 5, 2) := by decide +kernel
theorem dL_law__1173 : decode cL_law_ 1173 = .ok (.if_icmp .eq 5, 3) := by decide +kernel
theorem dL_law__1176 : decode cL_law_ 1176 = .ok (.iconst 0, 1) := by decide +kernel
theorem dL_law__1177 : decode cL_law_ 1177 = .ok (.ireturn, 1) := by decide +kernel
theorem dL_law__1178 : decode cL_law_ 1178 = .ok (.iload 5, 2) := by decide +kernel
theorem dL_law__1180 : decode cL_law_ 1180 = .ok (.ifCond .ne 15, 3) := by decide +kernel
theorem dL_law__1183 : decode cL_law_ 1183 = .ok (.aload_n 3, 1) := by decide +kernel
theorem dL_law__1184 : decode cL_law_ 1184 = .ok (.iconst 0, 1) := by decide +kernel
theorem dL_law__1185 : decode cL_law_ 1185 = .ok (.laload, 1) := by decide +kernel
theorem dL_law__1186 : decode cL_law_ 1186 = .ok (.iload 6, 2) := by decide +kernel
theorem dL_law__1188 : decode cL_law_ 1188 = .ok (.i2l, 1) := by decide +kernel
theorem dL_law__1189 : decode cL_law_ 1189 = .ok (.lcmp, 1) := by decide +kernel
theorem dL_law__1190 : decode cL_law_ 1190 = .ok (.ifCond .eq 5, 3) := by decide +kernel
theorem dL_law__1193 : decode cL_law_ 1193 = .ok (.iconst 0, 1) := by decide +kernel
theorem dL_law__1194 : decode cL_law_ 1194 = .ok (.ireturn, 1) := by decide +kernel
theorem dL_law__1195 : decode cL_law_ 1195 = .ok (.goto 1289, 3) := by decide +kernel
theorem dL_law__1198 : decode cL_law_ 1198 = .ok (.aload_n 1, 1) := by decide +kernel
theorem dL_law__1199 : decode cL_law_ 1199 = .ok (.aload_n 0, 1) := by decide +kernel
theorem dL_law__1200 : decode cL_law_ 1200 = .ok (.iload 4, 2) := by decide +kernel
theorem dL_law__1202 : decode cL_law_ 1202 = .ok (.iconst 1, 1) := by decide +kernel
theorem dL_law__1203 : decode cL_law_ 1203 = .ok (.iadd, 1) := by decide +kernel
theorem dL_law__1204 : decode cL_law_ 1204 = .ok (.iaload, 1) := by decide +kernel
theorem dL_law__1205 : decode cL_law_ 1205 = .ok (.aload_n 3, 1) := by decide +kernel
theorem dL_law__1206 : decode cL_law_ 1206 = .ok (.invokestatic 171, 3) := by decide +kernel
theorem dL_law__1209 : decode cL_law_ 1209 = .ok (.istore 5, 2) := by decide +kernel
theorem dL_law__1211 : decode cL_law_ 1211 = .ok (.aload_n 2, 1) := by decide +kernel
theorem dL_law__1212 : decode cL_law_ 1212 = .ok (.aload_n 0, 1) := by decide +kernel
theorem dL_law__1213 : decode cL_law_ 1213 = .ok (.iload 4, 2) := by decide +kernel
theorem dL_law__1215 : decode cL_law_ 1215 = .ok (.iconst 1, 1) := by decide +kernel
theorem dL_law__1216 : decode cL_law_ 1216 = .ok (.iadd, 1) := by decide +kernel
theorem dL_law__1217 : decode cL_law_ 1217 = .ok (.iaload, 1) := by decide +kernel
theorem dL_law__1218 : decode cL_law_ 1218 = .ok (.invokevirtual 173, 3) := by decide +kernel
theorem dL_law__1221 : decode cL_law_ 1221 = .ok (.istore 6, 2) := by decide +kernel
theorem dL_law__1223 : decode cL_law_ 1223 = .ok (.aload_n 2, 1) := by decide +kernel
theorem dL_law__1224 : decode cL_law_ 1224 = .ok (.invokevirtual 122, 3) := by decide +kernel
theorem dL_law__1227 : decode cL_law_ 1227 = .ok (.iload 5, 2) := by decide +kernel
theorem dL_law__1229 : decode cL_law_ 1229 = .ok (.if_icmp .eq 5, 3) := by decide +kernel
theorem dL_law__1232 : decode cL_law_ 1232 = .ok (.iconst 0, 1) := by decide +kernel
theorem dL_law__1233 : decode cL_law_ 1233 = .ok (.ireturn, 1) := by decide +kernel
theorem dL_law__1234 : decode cL_law_ 1234 = .ok (.iload 5, 2) := by decide +kernel
theorem dL_law__1236 : decode cL_law_ 1236 = .ok (.ifCond .ne 22, 3) := by decide +kernel
theorem dL_law__1239 : decode cL_law_ 1239 = .ok (.aload_n 3, 1) := by decide +kernel
theorem dL_law__1240 : decode cL_law_ 1240 = .ok (.iconst 0, 1) := by decide +kernel
theorem dL_law__1241 : decode cL_law_ 1241 = .ok (.laload, 1) := by decide +kernel
theorem dL_law__1242 : decode cL_law_ 1242 = .ok (.iload 6, 2) := by decide +kernel
theorem dL_law__1244 : decode cL_law_ 1244 = .ok (.ifCond .eq 7, 3) := by decide +kernel
theorem dL_law__1247 : decode cL_law_ 1247 = .ok (.lconst 1, 1) := by decide +kernel
theorem dL_law__1248 : decode cL_law_ 1248 = .ok (.goto 4, 3) := by decide +kernel
theorem dL_law__1251 : decode cL_law_ 1251 = .ok (.lconst 0, 1) := by decide +kernel
theorem dL_law__1252 : decode cL_law_ 1252 = .ok (.lcmp, 1) := by decide +kernel
theorem dL_law__1253 : decode cL_law_ 1253 = .ok (.ifCond .eq 5, 3) := by decide +kernel
theorem dL_law__1256 : decode cL_law_ 1256 = .ok (.iconst 0, 1) := by decide +kernel
theorem dL_law__1257 : decode cL_law_ 1257 = .ok (.ireturn, 1) := by decide +kernel
theorem dL_law__1258 : decode cL_law_ 1258 = .ok (.goto 1226, 3) := by decide +kernel
theorem dL_law__1261 : decode cL_law_ 1261 = .ok (.aload_n 1, 1) := by decide +kernel
theorem dL_law__1262 : decode cL_law_ 1262 = .ok (.aload_n 0, 1) := by decide +kernel
theorem dL_law__1263 : decode cL_law_ 1263 = .ok (.iload 4, 2) := by decide +kernel
theorem dL_law__1265 : decode cL_law_ 1265 = .ok (.iconst 1, 1) := by decide +kernel
theorem dL_law__1266 : decode cL_law_ 1266 = .ok (.iadd, 1) := by decide +kernel
theorem dL_law__1267 : decode cL_law_ 1267 = .ok (.iaload, 1) := by decide +kernel
theorem dL_law__1268 : decode cL_law_ 1268 = .ok (.aload_n 0, 1) := by decide +kernel
theorem dL_law__1269 : decode cL_law_ 1269 = .ok (.iload 4, 2) := by decide +kernel
theorem dL_law__1271 : decode cL_law_ 1271 = .ok (.iconst 2, 1) := by decide +kernel
theorem dL_law__1272 : decode cL_law_ 1272 = .ok (.iadd, 1) := by decide +kernel
theorem dL_law__1273 : decode cL_law_ 1273 = .ok (.iaload, 1) := by decide +kernel
theorem dL_law__1274 : decode cL_law_ 1274 = .ok (.aload_n 3, 1) := by decide +kernel
theorem dL_law__1275 : decode cL_law_ 1275 = .ok (.invokestatic 174, 3) := by decide +kernel
theorem dL_law__1278 : decode cL_law_ 1278 = .ok (.istore 5, 2) := by decide +kernel
theorem dL_law__1280 : decode cL_law_ 1280 = .ok (.aload_n 2, 1) := by decide +kernel
theorem dL_law__1281 : decode cL_law_ 1281 = .ok (.aload_n 0, 1) := by decide +kernel
theorem dL_law__1282 : decode cL_law_ 1282 = .ok (.iload 4, 2) := by decide +kernel
theorem dL_law__1284 : decode cL_law_ 1284 = .ok (.iconst 1, 1) := by decide +kernel
theorem dL_law__1285 : decode cL_law_ 1285 = .ok (.iadd, 1) := by decide +kernel
theorem dL_law__1286 : decode cL_law_ 1286 = .ok (.iaload, 1) := by decide +kernel
theorem dL_law__1287 : decode cL_law_ 1287 = .ok (.aload_n 0, 1) := by decide +kernel
theorem dL_law__1288 : decode cL_law_ 1288 = .ok (.iload 4, 2) := by decide +kernel
theorem dL_law__1290 : decode cL_law_ 1290 = .ok (.iconst 2, 1) := by decide +kernel
theorem dL_law__1291 : decode cL_law_ 1291 = .ok (.iadd, 1) := by decide +kernel
theorem dL_law__1292 : decode cL_law_ 1292 = .ok (.iaload, 1) := by decide +kernel

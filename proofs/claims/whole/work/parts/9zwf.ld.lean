def kL_law_r20 : List (Nat × Instr × Nat) := [(1066, .iconst 1, 1), (1067, .iadd, 1), (1068, .iaload, 1), (1069, .aload_n 0, 1), (1070, .iload 4, 2), (1072, .iconst 2, 1), (1073, .iadd, 1), (1074, .iaload, 1), (1075, .aload_n 3, 1), (1076, .invokestatic 165, 3), (1079, .istore 5, 2), (1081, .aload_n 2, 1), (1082, .aload_n 0, 1), (1083, .iload 4, 2), (1085, .iconst 1, 1), (1086, .iadd, 1), (1087, .iaload, 1), (1088, .aload_n 0, 1), (1089, .iload 4, 2), (1091, .iconst 2, 1), (1092, .iadd, 1), (1093, .iaload, 1), (1094, .invokevirtual 167, 3), (1097, .istore 6, 2), (1099, .aload_n 2, 1), (1100, .invokevirtual 122, 3), (1103, .iload 5, 2), (1105, .if_icmp .eq 5, 3), (1108, .iconst 0, 1), (1109, .ireturn, 1)]
set_option maxRecDepth 100000 in
theorem kL_law_r20_ok : kL_law_r20.all (fun q => decide (decode cL_law_ q.1 = .ok q.2)) = true := by decide +kernel
theorem dL_law__1066 : decode cL_law_ 1066 = .ok (.iconst 1, 1) := dk_get kL_law_r20_ok 0 rfl
theorem dL_law__1067 : decode cL_law_ 1067 = .ok (.iadd, 1) := dk_get kL_law_r20_ok 1 rfl
theorem dL_law__1068 : decode cL_law_ 1068 = .ok (.iaload, 1) := dk_get kL_law_r20_ok 2 rfl
theorem dL_law__1069 : decode cL_law_ 1069 = .ok (.aload_n 0, 1) := dk_get kL_law_r20_ok 3 rfl
theorem dL_law__1070 : decode cL_law_ 1070 = .ok (.iload 4, 2) := dk_get kL_law_r20_ok 4 rfl
theorem dL_law__1072 : decode cL_law_ 1072 = .ok (.iconst 2, 1) := dk_get kL_law_r20_ok 5 rfl
theorem dL_law__1073 : decode cL_law_ 1073 = .ok (.iadd, 1) := dk_get kL_law_r20_ok 6 rfl
theorem dL_law__1074 : decode cL_law_ 1074 = .ok (.iaload, 1) := dk_get kL_law_r20_ok 7 rfl
theorem dL_law__1075 : decode cL_law_ 1075 = .ok (.aload_n 3, 1) := dk_get kL_law_r20_ok 8 rfl
theorem dL_law__1076 : decode cL_law_ 1076 = .ok (.invokestatic 165, 3) := dk_get kL_law_r20_ok 9 rfl
theorem dL_law__1079 : decode cL_law_ 1079 = .ok (.istore 5, 2) := dk_get kL_law_r20_ok 10 rfl
theorem dL_law__1081 : decode cL_law_ 1081 = .ok (.aload_n 2, 1) := dk_get kL_law_r20_ok 11 rfl
theorem dL_law__1082 : decode cL_law_ 1082 = .ok (.aload_n 0, 1) := dk_get kL_law_r20_ok 12 rfl
theorem dL_law__1083 : decode cL_law_ 1083 = .ok (.iload 4, 2) := dk_get kL_law_r20_ok 13 rfl
theorem dL_law__1085 : decode cL_law_ 1085 = .ok (.iconst 1, 1) := dk_get kL_law_r20_ok 14 rfl
theorem dL_law__1086 : decode cL_law_ 1086 = .ok (.iadd, 1) := dk_get kL_law_r20_ok 15 rfl
theorem dL_law__1087 : decode cL_law_ 1087 = .ok (.iaload, 1) := dk_get kL_law_r20_ok 16 rfl
theorem dL_law__1088 : decode cL_law_ 1088 = .ok (.aload_n 0, 1) := dk_get kL_law_r20_ok 17 rfl
theorem dL_law__1089 : decode cL_law_ 1089 = .ok (.iload 4, 2) := dk_get kL_law_r20_ok 18 rfl
theorem dL_law__1091 : decode cL_law_ 1091 = .ok (.iconst 2, 1) := dk_get kL_law_r20_ok 19 rfl
theorem dL_law__1092 : decode cL_law_ 1092 = .ok (.iadd, 1) := dk_get kL_law_r20_ok 20 rfl
theorem dL_law__1093 : decode cL_law_ 1093 = .ok (.iaload, 1) := dk_get kL_law_r20_ok 21 rfl
theorem dL_law__1094 : decode cL_law_ 1094 = .ok (.invokevirtual 167, 3) := dk_get kL_law_r20_ok 22 rfl
theorem dL_law__1097 : decode cL_law_ 1097 = .ok (.istore 6, 2) := dk_get kL_law_r20_ok 23 rfl
theorem dL_law__1099 : decode cL_law_ 1099 = .ok (.aload_n 2, 1) := dk_get kL_law_r20_ok 24 rfl
theorem dL_law__1100 : decode cL_law_ 1100 = .ok (.invokevirtual 122, 3) := dk_get kL_law_r20_ok 25 rfl
theorem dL_law__1103 : decode cL_law_ 1103 = .ok (.iload 5, 2) := dk_get kL_law_r20_ok 26 rfl
theorem dL_law__1105 : decode cL_law_ 1105 = .ok (.if_icmp .eq 5, 3) := dk_get kL_law_r20_ok 27 rfl
theorem dL_law__1108 : decode cL_law_ 1108 = .ok (.iconst 0, 1) := dk_get kL_law_r20_ok 28 rfl
theorem dL_law__1109 : decode cL_law_ 1109 = .ok (.ireturn, 1) := dk_get kL_law_r20_ok 29 rfl
def kL_law_r21 : List (Nat × Instr × Nat) := [(1110, .iload 5, 2), (1112, .ifCond .ne 15, 3), (1115, .aload_n 3, 1), (1116, .iconst 0, 1), (1117, .laload, 1), (1118, .iload 6, 2), (1120, .i2l, 1), (1121, .lcmp, 1), (1122, .ifCond .eq 5, 3), (1125, .iconst 0, 1), (1126, .ireturn, 1), (1127, .goto 1357, 3), (1130, .aload_n 1, 1), (1131, .aload_n 0, 1), (1132, .iload 4, 2), (1134, .iconst 1, 1), (1135, .iadd, 1), (1136, .iaload, 1), (1137, .aload_n 0, 1), (1138, .iload 4, 2), (1140, .iconst 2, 1), (1141, .iadd, 1), (1142, .iaload, 1), (1143, .aload_n 3, 1), (1144, .invokestatic 168, 3), (1147, .istore 5, 2), (1149, .aload_n 2, 1), (1150, .aload_n 0, 1), (1151, .iload 4, 2), (1153, .iconst 1, 1)]
set_option maxRecDepth 100000 in
theorem kL_law_r21_ok : kL_law_r21.all (fun q => decide (decode cL_law_ q.1 = .ok q.2)) = true := by decide +kernel
theorem dL_law__1110 : decode cL_law_ 1110 = .ok (.iload 5, 2) := dk_get kL_law_r21_ok 0 rfl
theorem dL_law__1112 : decode cL_law_ 1112 = .ok (.ifCond .ne 15, 3) := dk_get kL_law_r21_ok 1 rfl
theorem dL_law__1115 : decode cL_law_ 1115 = .ok (.aload_n 3, 1) := dk_get kL_law_r21_ok 2 rfl
theorem dL_law__1116 : decode cL_law_ 1116 = .ok (.iconst 0, 1) := dk_get kL_law_r21_ok 3 rfl
theorem dL_law__1117 : decode cL_law_ 1117 = .ok (.laload, 1) := dk_get kL_law_r21_ok 4 rfl
theorem dL_law__1118 : decode cL_law_ 1118 = .ok (.iload 6, 2) := dk_get kL_law_r21_ok 5 rfl
theorem dL_law__1120 : decode cL_law_ 1120 = .ok (.i2l, 1) := dk_get kL_law_r21_ok 6 rfl
theorem dL_law__1121 : decode cL_law_ 1121 = .ok (.lcmp, 1) := dk_get kL_law_r21_ok 7 rfl
theorem dL_law__1122 : decode cL_law_ 1122 = .ok (.ifCond .eq 5, 3) := dk_get kL_law_r21_ok 8 rfl
theorem dL_law__1125 : decode cL_law_ 1125 = .ok (.iconst 0, 1) := dk_get kL_law_r21_ok 9 rfl
theorem dL_law__1126 : decode cL_law_ 1126 = .ok (.ireturn, 1) := dk_get kL_law_r21_ok 10 rfl
theorem dL_law__1127 : decode cL_law_ 1127 = .ok (.goto 1357, 3) := dk_get kL_law_r21_ok 11 rfl
theorem dL_law__1130 : decode cL_law_ 1130 = .ok (.aload_n 1, 1) := dk_get kL_law_r21_ok 12 rfl
theorem dL_law__1131 : decode cL_law_ 1131 = .ok (.aload_n 0, 1) := dk_get kL_law_r21_ok 13 rfl
theorem dL_law__1132 : decode cL_law_ 1132 = .ok (.iload 4, 2) := dk_get kL_law_r21_ok 14 rfl
theorem dL_law__1134 : decode cL_law_ 1134 = .ok (.iconst 1, 1) := dk_get kL_law_r21_ok 15 rfl
theorem dL_law__1135 : decode cL_law_ 1135 = .ok (.iadd, 1) := dk_get kL_law_r21_ok 16 rfl
theorem dL_law__1136 : decode cL_law_ 1136 = .ok (.iaload, 1) := dk_get kL_law_r21_ok 17 rfl
theorem dL_law__1137 : decode cL_law_ 1137 = .ok (.aload_n 0, 1) := dk_get kL_law_r21_ok 18 rfl
theorem dL_law__1138 : decode cL_law_ 1138 = .ok (.iload 4, 2) := dk_get kL_law_r21_ok 19 rfl
theorem dL_law__1140 : decode cL_law_ 1140 = .ok (.iconst 2, 1) := dk_get kL_law_r21_ok 20 rfl
theorem dL_law__1141 : decode cL_law_ 1141 = .ok (.iadd, 1) := dk_get kL_law_r21_ok 21 rfl
theorem dL_law__1142 : decode cL_law_ 1142 = .ok (.iaload, 1) := dk_get kL_law_r21_ok 22 rfl
theorem dL_law__1143 : decode cL_law_ 1143 = .ok (.aload_n 3, 1) := dk_get kL_law_r21_ok 23 rfl
theorem dL_law__1144 : decode cL_law_ 1144 = .ok (.invokestatic 168, 3) := dk_get kL_law_r21_ok 24 rfl
theorem dL_law__1147 : decode cL_law_ 1147 = .ok (.istore 5, 2) := dk_get kL_law_r21_ok 25 rfl
theorem dL_law__1149 : decode cL_law_ 1149 = .ok (.aload_n 2, 1) := dk_get kL_law_r21_ok 26 rfl
theorem dL_law__1150 : decode cL_law_ 1150 = .ok (.aload_n 0, 1) := dk_get kL_law_r21_ok 27 rfl
theorem dL_law__1151 : decode cL_law_ 1151 = .ok (.iload 4, 2) := dk_get kL_law_r21_ok 28 rfl
theorem dL_law__1153 : decode cL_law_ 1153 = .ok (.iconst 1, 1) := dk_get kL_law_r21_ok 29 rfl
def kL_law_r22 : List (Nat × Instr × Nat) := [(1154, .iadd, 1), (1155, .iaload, 1), (1156, .aload_n 0, 1), (1157, .iload 4, 2), (1159, .iconst 2, 1), (1160, .iadd, 1), (1161, .iaload, 1), (1162, .invokevirtual 170, 3), (1165, .istore 6, 2), (1167, .aload_n 2, 1), (1168, .invokevirtual 122, 3), (1171, .iload 5, 2), (1173, .if_icmp .eq 5, 3), (1176, .iconst 0, 1), (1177, .ireturn, 1), (1178, .iload 5, 2), (1180, .ifCond .ne 15, 3), (1183, .aload_n 3, 1), (1184, .iconst 0, 1), (1185, .laload, 1), (1186, .iload 6, 2), (1188, .i2l, 1), (1189, .lcmp, 1), (1190, .ifCond .eq 5, 3), (1193, .iconst 0, 1), (1194, .ireturn, 1), (1195, .goto 1289, 3), (1198, .aload_n 1, 1), (1199, .aload_n 0, 1), (1200, .iload 4, 2)]
set_option maxRecDepth 100000 in
theorem kL_law_r22_ok : kL_law_r22.all (fun q => decide (decode cL_law_ q.1 = .ok q.2)) = true := by decide +kernel
theorem dL_law__1154 : decode cL_law_ 1154 = .ok (.iadd, 1) := dk_get kL_law_r22_ok 0 rfl
theorem dL_law__1155 : decode cL_law_ 1155 = .ok (.iaload, 1) := dk_get kL_law_r22_ok 1 rfl
theorem dL_law__1156 : decode cL_law_ 1156 = .ok (.aload_n 0, 1) := dk_get kL_law_r22_ok 2 rfl
theorem dL_law__1157 : decode cL_law_ 1157 = .ok (.iload 4, 2) := dk_get kL_law_r22_ok 3 rfl
theorem dL_law__1159 : decode cL_law_ 1159 = .ok (.iconst 2, 1) := dk_get kL_law_r22_ok 4 rfl
theorem dL_law__1160 : decode cL_law_ 1160 = .ok (.iadd, 1) := dk_get kL_law_r22_ok 5 rfl
theorem dL_law__1161 : decode cL_law_ 1161 = .ok (.iaload, 1) := dk_get kL_law_r22_ok 6 rfl
theorem dL_law__1162 : decode cL_law_ 1162 = .ok (.invokevirtual 170, 3) := dk_get kL_law_r22_ok 7 rfl
theorem dL_law__1165 : decode cL_law_ 1165 = .ok (.istore 6, 2) := dk_get kL_law_r22_ok 8 rfl
theorem dL_law__1167 : decode cL_law_ 1167 = .ok (.aload_n 2, 1) := dk_get kL_law_r22_ok 9 rfl
theorem dL_law__1168 : decode cL_law_ 1168 = .ok (.invokevirtual 122, 3) := dk_get kL_law_r22_ok 10 rfl
theorem dL_law__1171 : decode cL_law_ 1171 = .ok (.iload 5, 2) := dk_get kL_law_r22_ok 11 rfl
theorem dL_law__1173 : decode cL_law_ 1173 = .ok (.if_icmp .eq 5, 3) := dk_get kL_law_r22_ok 12 rfl
theorem dL_law__1176 : decode cL_law_ 1176 = .ok (.iconst 0, 1) := dk_get kL_law_r22_ok 13 rfl
theorem dL_law__1177 : decode cL_law_ 1177 = .ok (.ireturn, 1) := dk_get kL_law_r22_ok 14 rfl
theorem dL_law__1178 : decode cL_law_ 1178 = .ok (.iload 5, 2) := dk_get kL_law_r22_ok 15 rfl
theorem dL_law__1180 : decode cL_law_ 1180 = .ok (.ifCond .ne 15, 3) := dk_get kL_law_r22_ok 16 rfl
theorem dL_law__1183 : decode cL_law_ 1183 = .ok (.aload_n 3, 1) := dk_get kL_law_r22_ok 17 rfl
theorem dL_law__1184 : decode cL_law_ 1184 = .ok (.iconst 0, 1) := dk_get kL_law_r22_ok 18 rfl
theorem dL_law__1185 : decode cL_law_ 1185 = .ok (.laload, 1) := dk_get kL_law_r22_ok 19 rfl
theorem dL_law__1186 : decode cL_law_ 1186 = .ok (.iload 6, 2) := dk_get kL_law_r22_ok 20 rfl
theorem dL_law__1188 : decode cL_law_ 1188 = .ok (.i2l, 1) := dk_get kL_law_r22_ok 21 rfl
theorem dL_law__1189 : decode cL_law_ 1189 = .ok (.lcmp, 1) := dk_get kL_law_r22_ok 22 rfl
theorem dL_law__1190 : decode cL_law_ 1190 = .ok (.ifCond .eq 5, 3) := dk_get kL_law_r22_ok 23 rfl
theorem dL_law__1193 : decode cL_law_ 1193 = .ok (.iconst 0, 1) := dk_get kL_law_r22_ok 24 rfl
theorem dL_law__1194 : decode cL_law_ 1194 = .ok (.ireturn, 1) := dk_get kL_law_r22_ok 25 rfl
theorem dL_law__1195 : decode cL_law_ 1195 = .ok (.goto 1289, 3) := dk_get kL_law_r22_ok 26 rfl
theorem dL_law__1198 : decode cL_law_ 1198 = .ok (.aload_n 1, 1) := dk_get kL_law_r22_ok 27 rfl
theorem dL_law__1199 : decode cL_law_ 1199 = .ok (.aload_n 0, 1) := dk_get kL_law_r22_ok 28 rfl
theorem dL_law__1200 : decode cL_law_ 1200 = .ok (.iload 4, 2) := dk_get kL_law_r22_ok 29 rfl
def kL_law_r23 : List (Nat × Instr × Nat) := [(1202, .iconst 1, 1), (1203, .iadd, 1), (1204, .iaload, 1), (1205, .aload_n 3, 1), (1206, .invokestatic 171, 3), (1209, .istore 5, 2), (1211, .aload_n 2, 1), (1212, .aload_n 0, 1), (1213, .iload 4, 2), (1215, .iconst 1, 1), (1216, .iadd, 1), (1217, .iaload, 1), (1218, .invokevirtual 173, 3), (1221, .istore 6, 2), (1223, .aload_n 2, 1), (1224, .invokevirtual 122, 3), (1227, .iload 5, 2), (1229, .if_icmp .eq 5, 3), (1232, .iconst 0, 1), (1233, .ireturn, 1), (1234, .iload 5, 2), (1236, .ifCond .ne 22, 3), (1239, .aload_n 3, 1), (1240, .iconst 0, 1), (1241, .laload, 1), (1242, .iload 6, 2), (1244, .ifCond .eq 7, 3), (1247, .lconst 1, 1), (1248, .goto 4, 3), (1251, .lconst 0, 1)]
set_option maxRecDepth 100000 in
theorem kL_law_r23_ok : kL_law_r23.all (fun q => decide (decode cL_law_ q.1 = .ok q.2)) = true := by decide +kernel
theorem dL_law__1202 : decode cL_law_ 1202 = .ok (.iconst 1, 1) := dk_get kL_law_r23_ok 0 rfl
theorem dL_law__1203 : decode cL_law_ 1203 = .ok (.iadd, 1) := dk_get kL_law_r23_ok 1 rfl
theorem dL_law__1204 : decode cL_law_ 1204 = .ok (.iaload, 1) := dk_get kL_law_r23_ok 2 rfl
theorem dL_law__1205 : decode cL_law_ 1205 = .ok (.aload_n 3, 1) := dk_get kL_law_r23_ok 3 rfl
theorem dL_law__1206 : decode cL_law_ 1206 = .ok (.invokestatic 171, 3) := dk_get kL_law_r23_ok 4 rfl
theorem dL_law__1209 : decode cL_law_ 1209 = .ok (.istore 5, 2) := dk_get kL_law_r23_ok 5 rfl
theorem dL_law__1211 : decode cL_law_ 1211 = .ok (.aload_n 2, 1) := dk_get kL_law_r23_ok 6 rfl
theorem dL_law__1212 : decode cL_law_ 1212 = .ok (.aload_n 0, 1) := dk_get kL_law_r23_ok 7 rfl
theorem dL_law__1213 : decode cL_law_ 1213 = .ok (.iload 4, 2) := dk_get kL_law_r23_ok 8 rfl
theorem dL_law__1215 : decode cL_law_ 1215 = .ok (.iconst 1, 1) := dk_get kL_law_r23_ok 9 rfl
theorem dL_law__1216 : decode cL_law_ 1216 = .ok (.iadd, 1) := dk_get kL_law_r23_ok 10 rfl
theorem dL_law__1217 : decode cL_law_ 1217 = .ok (.iaload, 1) := dk_get kL_law_r23_ok 11 rfl
theorem dL_law__1218 : decode cL_law_ 1218 = .ok (.invokevirtual 173, 3) := dk_get kL_law_r23_ok 12 rfl
theorem dL_law__1221 : decode cL_law_ 1221 = .ok (.istore 6, 2) := dk_get kL_law_r23_ok 13 rfl
theorem dL_law__1223 : decode cL_law_ 1223 = .ok (.aload_n 2, 1) := dk_get kL_law_r23_ok 14 rfl
theorem dL_law__1224 : decode cL_law_ 1224 = .ok (.invokevirtual 122, 3) := dk_get kL_law_r23_ok 15 rfl
theorem dL_law__1227 : decode cL_law_ 1227 = .ok (.iload 5, 2) := dk_get kL_law_r23_ok 16 rfl
theorem dL_law__1229 : decode cL_law_ 1229 = .ok (.if_icmp .eq 5, 3) := dk_get kL_law_r23_ok 17 rfl
theorem dL_law__1232 : decode cL_law_ 1232 = .ok (.iconst 0, 1) := dk_get kL_law_r23_ok 18 rfl
theorem dL_law__1233 : decode cL_law_ 1233 = .ok (.ireturn, 1) := dk_get kL_law_r23_ok 19 rfl
theorem dL_law__1234 : decode cL_law_ 1234 = .ok (.iload 5, 2) := dk_get kL_law_r23_ok 20 rfl
theorem dL_law__1236 : decode cL_law_ 1236 = .ok (.ifCond .ne 22, 3) := dk_get kL_law_r23_ok 21 rfl
theorem dL_law__1239 : decode cL_law_ 1239 = .ok (.aload_n 3, 1) := dk_get kL_law_r23_ok 22 rfl
theorem dL_law__1240 : decode cL_law_ 1240 = .ok (.iconst 0, 1) := dk_get kL_law_r23_ok 23 rfl
theorem dL_law__1241 : decode cL_law_ 1241 = .ok (.laload, 1) := dk_get kL_law_r23_ok 24 rfl
theorem dL_law__1242 : decode cL_law_ 1242 = .ok (.iload 6, 2) := dk_get kL_law_r23_ok 25 rfl
theorem dL_law__1244 : decode cL_law_ 1244 = .ok (.ifCond .eq 7, 3) := dk_get kL_law_r23_ok 26 rfl
theorem dL_law__1247 : decode cL_law_ 1247 = .ok (.lconst 1, 1) := dk_get kL_law_r23_ok 27 rfl
theorem dL_law__1248 : decode cL_law_ 1248 = .ok (.goto 4, 3) := dk_get kL_law_r23_ok 28 rfl
theorem dL_law__1251 : decode cL_law_ 1251 = .ok (.lconst 0, 1) := dk_get kL_law_r23_ok 29 rfl

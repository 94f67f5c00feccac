theorem dL_law_984 : decode cL_law 984 = .ok (.iadd, 1) := by decide +kernel
theorem dL_law_985 : decode cL_law 985 = .ok (.istore 22, 2) := by decide +kernel
theorem dL_law_987 : decode cL_law 987 = .ok (.iconst 0, 1) := by decide +kernel
theorem dL_law_988 : decode cL_law 988 = .ok (.istore 23, 2) := by decide +kernel
theorem dL_law_990 : decode cL_law 990 = .ok (.bipush 8, 2) := by decide +kernel
theorem dL_law_992 : decode cL_law 992 = .ok (.istore 24, 2) := by decide +kernel
theorem dL_law_994 : decode cL_law 994 = .ok (.iload 24, 2) := by decide +kernel
theorem dL_law_996 : decode cL_law 996 = .ok (.ifCond .le 267, 3) := by decide +kernel
theorem dL_law_999 : decode cL_law 999 = .ok (.iload 23, 2) := by decide +kernel
theorem dL_law_1001 : decode cL_law 1001 = .ok (.iload 22, 2) := by decide +kernel
theorem dL_law_1003 : decode cL_law 1003 = .ok (.if_icmp .ge 260, 3) := by decide +kernel
theorem dL_law_1006 : decode cL_law 1006 = .ok (.iconst (-1), 1) := by decide +kernel
theorem dL_law_1007 : decode cL_law 1007 = .ok (.iconst 0, 1) := by decide +kernel
theorem dL_law_1008 : decode cL_law 1008 = .ok (.aload_n 2, 1) := by decide +kernel
theorem dL_law_1009 : decode cL_law 1009 = .ok (.aload_n 3, 1) := by decide +kernel
theorem dL_law_1010 : decode cL_law 1010 = .ok (.aload 4, 2) := by decide +kernel
theorem dL_law_1012 : decode cL_law 1012 = .ok (.invokestatic 106, 3) := by decide +kernel
theorem dL_law_1015 : decode cL_law 1015 = .ok (.lstore 25, 2) := by decide +kernel
theorem dL_law_1017 : decode cL_law 1017 = .ok (.iconst (-1), 1) := by decide +kernel
theorem dL_law_1018 : decode cL_law 1018 = .ok (.istore 27, 2) := by decide +kernel
theorem dL_law_1020 : decode cL_law 1020 = .ok (.iconst 0, 1) := by decide +kernel
theorem dL_law_1021 : decode cL_law 1021 = .ok (.istore 28, 2) := by decide +kernel
theorem dL_law_1023 : decode cL_law 1023 = .ok (.aload_n 3, 1) := by decide +kernel
theorem dL_law_1024 : decode cL_law 1024 = .ok (.iconst 0, 1) := by decide +kernel
theorem dL_law_1025 : decode cL_law 1025 = .ok (.iaload, 1) := by decide +kernel
theorem dL_law_1026 : decode cL_law 1026 = .ok (.iconst 1, 1) := by decide +kernel
theorem dL_law_1027 : decode cL_law 1027 = .ok (.isub, 1) := by decide +kernel
theorem dL_law_1028 : decode cL_law 1028 = .ok (.istore 29, 2) := by decide +kernel
theorem dL_law_1030 : decode cL_law 1030 = .ok (.iload 29, 2) := by decide +kernel
theorem dL_law_1032 : decode cL_law 1032 = .ok (.ifCond .lt 197, 3) := by decide +kernel
theorem dL_law_1035 : decode cL_law 1035 = .ok (.aload_n 2, 1) := by decide +kernel
theorem dL_law_1036 : decode cL_law 1036 = .ok (.iconst 5, 1) := by decide +kernel
theorem dL_law_1037 : decode cL_law 1037 = .ok (.iload 29, 2) := by decide +kernel
theorem dL_law_1039 : decode cL_law 1039 = .ok (.imul, 1) := by decide +kernel
theorem dL_law_1040 : decode cL_law 1040 = .ok (.iconst 3, 1) := by decide +kernel
theorem dL_law_1041 : decode cL_law 1041 = .ok (.iadd, 1) := by decide +kernel
theorem dL_law_1042 : decode cL_law 1042 = .ok (.iaload, 1) := by decide +kernel
theorem dL_law_1043 : decode cL_law 1043 = .ok (.aload_n 2, 1) := by decide +kernel
theorem dL_law_1044 : decode cL_law 1044 = .ok (.iconst 5, 1) := by decide +kernel
theorem dL_law_1045 : decode cL_law 1045 = .ok (.iload 29, 2) := by decide +kernel
theorem dL_law_1047 : decode cL_law 1047 = .ok (.imul, 1) := by decide +kernel
theorem dL_law_1048 : decode cL_law 1048 = .ok (.iconst 4, 1) := by decide +kernel
theorem dL_law_1049 : decode cL_law 1049 = .ok (.iadd, 1) := by decide +kernel
theorem dL_law_1050 : decode cL_law 1050 = .ok (.iaload, 1) := by decide +kernel
theorem dL_law_1051 : decode cL_law 1051 = .ok (.isub, 1) := by decide +kernel
theorem dL_law_1052 : decode cL_law 1052 = .ok (.iload 24, 2) := by decide +kernel
theorem dL_law_1054 : decode cL_law 1054 = .ok (.if_icmp .ge 23, 3) := by decide +kernel
theorem dL_law_1057 : decode cL_law 1057 = .ok (.aload_n 2, 1) := by decide +kernel
theorem dL_law_1058 : decode cL_law 1058 = .ok (.iconst 5, 1) := by decide +kernel
theorem dL_law_1059 : decode cL_law 1059 = .ok (.iload 29, 2) := by decide +kernel
theorem dL_law_1061 : decode cL_law 1061 = .ok (.imul, 1) := by decide +kernel
theorem dL_law_1062 : decode cL_law 1062 = .ok (.iconst 3, 1) := by decide +kernel
theorem dL_law_1063 : decode cL_law 1063 = .ok (.iadd, 1) := by decide +kernel
theorem dL_law_1064 : decode cL_law 1064 = .ok (.iaload, 1) := by decide +kernel
theorem dL_law_1065 : decode cL_law 1065 = .ok (.aload_n 2, 1) := by decide +kernel
theorem dL_law_1066 : decode cL_law 1066 = .ok (.iconst 5, 1) := by decide +kernel
theorem dL_law_1067 : decode cL_law 1067 = .ok (.iload 29, 2) := by decide +kernel
theorem dL_law_1069 : decode cL_law 1069 = .ok (.imul, 1) := by decide +kernel
theorem dL_law_1070 : decode cL_law 1070 = .ok (.iconst 4, 1) := by decide +kernel
theorem dL_law_1071 : decode cL_law 1071 = .ok (.iadd, 1) := by decide +kernel
theorem dL_law_1072 : decode cL_law 1072 = .ok (.iaload, 1) := by decide +kernel
theorem dL_law_1073 : decode cL_law 1073 = .ok (.isub, 1) := by decide +kernel
theorem dL_law_1074 : decode cL_law 1074 = .ok (.goto 5, 3) := by decide +kernel
theorem dL_law_1077 : decode cL_law 1077 = .ok (.iload 24, 2) := by decide +kernel
theorem dL_law_1079 : decode cL_law 1079 = .ok (.istore 30, 2) := by decide +kernel
theorem dL_law_1081 : decode cL_law 1081 = .ok (.aload_n 2, 1) := by decide +kernel
theorem dL_law_1082 : decode cL_law 1082 = .ok (.iconst 5, 1) := by decide +kernel
theorem dL_law_1083 : decode cL_law 1083 = .ok (.iload 29, 2) := by decide +kernel
theorem dL_law_1085 : decode cL_law 1085 = .ok (.imul, 1) := by decide +kernel
theorem dL_law_1086 : decode cL_law 1086 = .ok (.iconst 4, 1) := by decide +kernel
theorem dL_law_1087 : decode cL_law 1087 = .ok (.iadd, 1) := by decide +kernel
theorem dL_law_1088 : decode cL_law 1088 = .ok (.iaload, 1) := by decide +kernel
theorem dL_law_1089 : decode cL_law 1089 = .ok (.aload_n 2, 1) := by decide +kernel
theorem dL_law_1090 : decode cL_law 1090 = .ok (.iconst 5, 1) := by decide +kernel
theorem dL_law_1091 : decode cL_law 1091 = .ok (.iload 29, 2) := by decide +kernel
theorem dL_law_1093 : decode cL_law 1093 = .ok (.imul, 1) := by decide +kernel
theorem dL_law_1094 : decode cL_law 1094 = .ok (.iconst 2, 1) := by decide +kernel
theorem dL_law_1095 : decode cL_law 1095 = .ok (.iadd, 1) := by decide +kernel
theorem dL_law_1096 : decode cL_law 1096 = .ok (.iaload, 1) := by decide +kernel
theorem dL_law_1097 : decode cL_law 1097 = .ok (.isub, 1) := by decide +kernel
theorem dL_law_1098 : decode cL_law 1098 = .ok (.iload 24, 2) := by decide +kernel
theorem dL_law_1100 : decode cL_law 1100 = .ok (.if_icmp .ge 23, 3) := by decide +kernel
theorem dL_law_1103 : decode cL_law 1103 = .ok (.aload_n 2, 1) := by decide +kernel
theorem dL_law_1104 : decode cL_law 1104 = .ok (.iconst 5, 1) := by decide +kernel
theorem dL_law_1105 : decode cL_law 1105 = .ok (.iload 29, 2) := by decide +kernel
theorem dL_law_1107 : decode cL_law 1107 = .ok (.imul, 1) := by decide +kernel
theorem dL_law_1108 : decode cL_law 1108 = .ok (.iconst 4, 1) := by decide +kernel
theorem dL_law_1109 : decode cL_law 1109 = .ok (.iadd, 1) := by decide +kernel
theorem dL_law_1110 : decode cL_law 1110 = .ok (.iaload, 1) := by decide +kernel
theorem dL_law_1111 : decode cL_law 1111 = .ok (.aload_n 2, 1) := by decide +kernel
theorem dL_law_1112 : decode cL_law 1112 = .ok (.iconst 5, 1) := by decide +kernel
theorem dL_law_1113 : decode cL_law 1113 = .ok (.iload 29, 2) := by decide +kernel
theorem dL_law_1115 : decode cL_law 1115 = .ok (.imul, 1) := by decide +kernel
theorem dL_law_1116 : decode cL_law 1116 = .ok (.iconst 2, 1) := by decide +kernel
theorem dL_law_1117 : decode cL_law 1117 = .ok (.iadd, 1) := by decide +kernel
theorem dL_law_1118 : decode cL_law 1118 = .ok (.iaload, 1) := by decide +kernel
theorem dL_law_1119 : decode cL_law 1119 = .ok (.isub, 1) := by decide +kernel
theorem dL_law_1120 : decode cL_law 1120 = .ok (.goto 5, 3) := by decide +kernel
theorem dL_law_1123 : decode cL_law 1123 = .ok (.iload 24, 2) := by decide +kernel
theorem dL_law_1125 : decode cL_law 1125 = .ok (.istore 31, 2) := by decide +kernel
theorem dL_law_1127 : decode cL_law 1127 = .ok (.iload 29, 2) := by decide +kernel
theorem dL_law_1129 : decode cL_law 1129 = .ok (.iload 30, 2) := by decide +kernel
theorem dL_law_1131 : decode cL_law 1131 = .ok (.aload_n 2, 1) := by decide +kernel
theorem dL_law_1132 : decode cL_law 1132 = .ok (.aload_n 3, 1) := by decide +kernel
theorem dL_law_1133 : decode cL_law 1133 = .ok (.aload 4, 2) := by decide +kernel
theorem dL_law_1135 : decode cL_law 1135 = .ok (.invokestatic 106, 3) := by decide +kernel
theorem dL_law_1138 : decode cL_law 1138 = .ok (.lstore 32, 2) := by decide +kernel
theorem dL_law_1140 : decode cL_law 1140 = .ok (.lload 32, 2) := by decide +kernel
theorem dL_law_1142 : decode cL_law 1142 = .ok (.lload 25, 2) := by decide +kernel
theorem dL_law_1144 : decode cL_law 1144 = .ok (.lcmp, 1) := by decide +kernel
theorem dL_law_1145 : decode cL_law 1145 = .ok (.ifCond .lt 17, 3) := by decide +kernel
theorem dL_law_1148 : decode cL_law 1148 = .ok (.lload 32, 2) := by decide +kernel
theorem dL_law_1150 : decode cL_law 1150 = .ok (.lload 25, 2) := by decide +kernel
theorem dL_law_1152 : decode cL_law 1152 = .ok (.lcmp, 1) := by decide +kernel
theorem dL_law_1153 : decode cL_law 1153 = .ok (.ifCond .ne 21, 3) := by decide +kernel
theorem dL_law_1156 : decode cL_law 1156 = .ok (.iload 27, 2) := by decide +kernel
theorem dL_law_1158 : decode cL_law 1158 = .ok (.iconst (-1), 1) := by decide +kernel
theorem dL_law_1159 : decode cL_law 1159 = .ok (.if_icmp .eq 15, 3) := by decide +kernel
theorem dL_law_1162 : decode cL_law 1162 = .ok (.lload 32, 2) := by decide +kernel
theorem dL_law_1164 : decode cL_law 1164 = .ok (.lstore 25, 2) := by decide +kernel
theorem dL_law_1166 : decode cL_law 1166 = .ok (.iload 29, 2) := by decide +kernel
theorem dL_law_1168 : decode cL_law 1168 = .ok (.istore 27, 2) := by decide +kernel
theorem dL_law_1170 : decode cL_law 1170 = .ok (.iload 30, 2) := by decide +kernel
theorem dL_law_1172 : decode cL_law 1172 = .ok (.istore 28, 2) := by decide +kernel
theorem dL_law_1174 : decode cL_law 1174 = .ok (.iload 29, 2) := by decide +kernel
theorem dL_law_1176 : decode cL_law 1176 = .ok (.iload 31, 2) := by decide +kernel
theorem dL_law_1178 : decode cL_law 1178 = .ok (.ineg, 1) := by decide +kernel
theorem dL_law_1179 : decode cL_law 1179 = .ok (.aload_n 2, 1) := by decide +kernel
theorem dL_law_1180 : decode cL_law 1180 = .ok (.aload_n 3, 1) := by decide +kernel
theorem dL_law_1181 : decode cL_law 1181 = .ok (.aload 4, 2) := by decide +kernel
theorem dL_law_1183 : decode cL_law 1183 = .ok (.invokestatic 106, 3) := by decide +kernel
theorem dL_law_1186 : decode cL_law 1186 = .ok (.lstore 32, 2) := by decide +kernel
theorem dL_law_1188 : decode cL_law 1188 = .ok (.lload 32, 2) := by decide +kernel
theorem dL_law_1190 : decode cL_law 1190 = .ok (.lload 25, 2) := by decide +kernel
theorem dL_law_1192 : decode cL_law 1192 = .ok (.lcmp, 1) := by decide +kernel
theorem dL_law_1193 : decode cL_law 1193 = .ok (.ifCond .lt 17, 3) := by decide +kernel
theorem dL_law_1196 : decode cL_law 1196 = .ok (.lload 32, 2) := by decide +kernel
theorem dL_law_1198 : decode cL_law 1198 = .ok (.lload 25, 2) := by decide +kernel
theorem dL_law_1200 : decode cL_law 1200 = .ok (.lcmp, 1) := by decide +kernel
theorem dL_law_1201 : decode cL_law 1201 = .ok (.ifCond .ne 22, 3) := by decide +kernel
theorem dL_law_1204 : decode cL_law 1204 = .ok (.iload 27, 2) := by decide +kernel
theorem dL_law_1206 : decode cL_law 1206 = .ok (.iconst (-1), 1) := by decide +kernel
theorem dL_law_1207 : decode cL_law 1207 = .ok (.if_icmp .eq 16, 3) := by decide +kernel
theorem dL_law_1210 : decode cL_law 1210 = .ok (.lload 32, 2) := by decide +kernel
theorem dL_law_1212 : decode cL_law 1212 = .ok (.lstore 25, 2) := by decide +kernel
theorem dL_law_1214 : decode cL_law 1214 = .ok (.iload 29, 2) := by decide +kernel
theorem dL_law_1216 : decode cL_law 1216 = .ok (.istore 27, 2) := by decide +kernel
theorem dL_law_1218 : decode cL_law 1218 = .ok (.iload 31, 2) := by decide +kernel
theorem dL_law_1220 : decode cL_law 1220 = .ok (.ineg, 1) := by decide +kernel
theorem dL_law_1221 : decode cL_law 1221 = .ok (.istore 28, 2) := by decide +kernel
theorem dL_law_1223 : decode cL_law 1223 = .ok (.iinc 29 (-1), 3) := by decide +kernel
theorem dL_law_1226 : decode cL_law 1226 = .ok (.goto (-196), 3) := by decide +kernel
theorem dL_law_1229 : decode cL_law 1229 = .ok (.iload 27, 2) := by decide +kernel
theorem dL_law_1231 : decode cL_law 1231 = .ok (.iconst (-1), 1) := by decide +kernel
theorem dL_law_1232 : decode cL_law 1232 = .ok (.if_icmp .ne 12, 3) := by decide +kernel
theorem dL_law_1235 : decode cL_law 1235 = .ok (.iload 24, 2) := by decide +kernel
theorem dL_law_1237 : decode cL_law 1237 = .ok (.iconst 2, 1) := by decide +kernel
theorem dL_law_1238 : decode cL_law 1238 = .ok (.idiv, 1) := by decide +kernel
theorem dL_law_1239 : decode cL_law 1239 = .ok (.istore 24, 2) := by decide +kernel
theorem dL_law_1241 : decode cL_law 1241 = .ok (.goto (-247), 3) := by decide +kernel
theorem dL_law_1244 : decode cL_law 1244 = .ok (.aload_n 2, 1) := by decide +kernel
theorem dL_law_1245 : decode cL_law 1245 = .ok (.iconst 5, 1) := by decide +kernel
theorem dL_law_1246 : decode cL_law 1246 = .ok (.iload 27, 2) := by decide +kernel
theorem dL_law_1248 : decode cL_law 1248 = .ok (.imul, 1) := by decide +kernel
theorem dL_law_1249 : decode cL_law 1249 = .ok (.iconst 4, 1) := by decide +kernel
theorem dL_law_1250 : decode cL_law 1250 = .ok (.iadd, 1) := by decide +kernel
theorem dL_law_1251 : decode cL_law 1251 = .ok (.dup2, 1) := by decide +kernel
theorem dL_law_1252 : decode cL_law 1252 = .ok (.iaload, 1) := by decide +kernel
theorem dL_law_1253 : decode cL_law 1253 = .ok (.iload 28, 2) := by decide +kernel
theorem dL_law_1255 : decode cL_law 1255 = .ok (.iadd, 1) := by decide +kernel
theorem dL_law_1256 : decode cL_law 1256 = .ok (.iastore, 1) := by decide +kernel
theorem dL_law_1257 : decode cL_law 1257 = .ok (.iinc 23 1, 3) := by decide +kernel
theorem dL_law_1260 : decode cL_law 1260 = .ok (.goto (-266), 3) := by decide +kernel
theorem dL_law_1263 : decode cL_law 1263 = .ok (.aload_n 1, 1) := by decide +kernel
theorem dL_law_1264 : decode cL_law 1264 = .ok (.iload 22, 2) := by decide +kernel
theorem dL_law_1266 : decode cL_law 1266 = .ok (.invokestatic 143, 3) := by decide +kernel
theorem dL_law_1269 : decode cL_law 1269 = .ok (.iload 23, 2) := by decide +kernel
theorem dL_law_1271 : decode cL_law 1271 = .ok (.if_icmp .ne 7, 3) := by decide +kernel
theorem dL_law_1274 : decode cL_law 1274 = .ok (.iconst 1, 1) := by decide +kernel
theorem dL_law_1275 : decode cL_law 1275 = .ok (.goto 4, 3) := by decide +kernel
theorem dL_law_1278 : decode cL_law 1278 = .ok (.iconst 0, 1) := by decide +kernel
theorem dL_law_1279 : decode cL_law 1279 = .ok (.istore 9, 2) := by decide +kernel
theorem dL_law_1281 : decode cL_law 1281 = .ok (.goto 459, 3) := by decide +kernel
theorem dL_law_1284 : decode cL_law 1284 = .ok (.aload_n 2, 1) := by decide +kernel
theorem dL_law_1285 : decode cL_law 1285 = .ok (.aload_n 3, 1) := by decide +kernel
theorem dL_law_1286 : decode cL_law 1286 = .ok (.invokestatic 85, 3) := by decide +kernel
theorem dL_law_1289 : decode cL_law 1289 = .ok (.istore 24, 2) := by decide +kernel
theorem dL_law_1291 : decode cL_law 1291 = .ok (.iload 7, 2) := by decide +kernel
theorem dL_law_1293 : decode cL_law 1293 = .ok (.iconst 3, 1) := by decide +kernel
theorem dL_law_1294 : decode cL_law 1294 = .ok (.invokestatic 120, 3) := by decide +kernel
theorem dL_law_1297 : decode cL_law 1297 = .ok (.istore 25, 2) := by decide +kernel
theorem dL_law_1299 : decode cL_law 1299 = .ok (.iload 7, 2) := by decide +kernel
theorem dL_law_1301 : decode cL_law 1301 = .ok (.iconst 4, 1) := by decide +kernel
theorem dL_law_1302 : decode cL_law 1302 = .ok (.ishr, 1) := by decide +kernel
theorem dL_law_1303 : decode cL_law 1303 = .ok (.bipush 10, 2) := by decide +kernel
theorem dL_law_1305 : decode cL_law 1305 = .ok (.invokestatic 120, 3) := by decide +kernel
theorem dL_law_1308 : decode cL_law 1308 = .ok (.istore 26, 2) := by decide +kernel
theorem dL_law_1310 : decode cL_law 1310 = .ok (.iload 24, 2) := by decide +kernel
theorem dL_law_1312 : decode cL_law 1312 = .ok (.ldc 145, 2) := by decide +kernel
theorem dL_law_1314 : decode cL_law 1314 = .ok (.if_icmp .le 84, 3) := by decide +kernel
theorem dL_law_1317 : decode cL_law 1317 = .ok (.aload_n 1, 1) := by decide +kernel
theorem dL_law_1318 : decode cL_law 1318 = .ok (.invokestatic 146, 3) := by decide +kernel
theorem dL_law_1321 : decode cL_law 1321 = .ok (.sipush (-7300), 3) := by decide +kernel
theorem dL_law_1324 : decode cL_law 1324 = .ok (.if_icmp .ne 68, 3) := by decide +kernel
theorem dL_law_1327 : decode cL_law 1327 = .ok (.aload_n 1, 1) := by decide +kernel
theorem dL_law_1328 : decode cL_law 1328 = .ok (.iload 26, 2) := by decide +kernel
theorem dL_law_1330 : decode cL_law 1330 = .ok (.iload 25, 2) := by decide +kernel
theorem dL_law_1332 : decode cL_law 1332 = .ok (.iload 8, 2) := by decide +kernel
theorem dL_law_1334 : decode cL_law 1334 = .ok (.invokestatic 149, 3) := by decide +kernel
theorem dL_law_1337 : decode cL_law 1337 = .ok (.sipush (-7300), 3) := by decide +kernel
theorem dL_law_1340 : decode cL_law 1340 = .ok (.if_icmp .ne 52, 3) := by decide +kernel
theorem dL_law_1343 : decode cL_law 1343 = .ok (.aload_n 1, 1) := by decide +kernel
theorem dL_law_1344 : decode cL_law 1344 = .ok (.iload 26, 2) := by decide +kernel
theorem dL_law_1346 : decode cL_law 1346 = .ok (.iload 25, 2) := by decide +kernel
theorem dL_law_1348 : decode cL_law 1348 = .ok (.invokestatic 152, 3) := by decide +kernel
theorem dL_law_1351 : decode cL_law 1351 = .ok (.ldc2_w 64, 3) := by decide +kernel
theorem dL_law_1354 : decode cL_law 1354 = .ok (.lcmp, 1) := by decide +kernel
theorem dL_law_1355 : decode cL_law 1355 = .ok (.ifCond .ne 37, 3) := by decide +kernel
theorem dL_law_1358 : decode cL_law 1358 = .ok (.aload_n 1, 1) := by decide +kernel
theorem dL_law_1359 : decode cL_law 1359 = .ok (.iload 26, 2) := by decide +kernel
theorem dL_law_1361 : decode cL_law 1361 = .ok (.iconst 3, 1) := by decide +kernel
theorem dL_law_1362 : decode cL_law 1362 = .ok (.iload 8, 2) := by decide +kernel
theorem dL_law_1364 : decode cL_law 1364 = .ok (.invokestatic 149, 3) := by decide +kernel
theorem dL_law_1367 : decode cL_law 1367 = .ok (.sipush (-7200), 3) := by decide +kernel
theorem dL_law_1370 : decode cL_law 1370 = .ok (.if_icmp .ne 22, 3) := by decide +kernel
theorem dL_law_1373 : decode cL_law 1373 = .ok (.aload_n 1, 1) := by decide +kernel
theorem dL_law_1374 : decode cL_law 1374 = .ok (.bipush 10, 2) := by decide +kernel
theorem dL_law_1376 : decode cL_law 1376 = .ok (.iconst 3, 1) := by decide +kernel
theorem dL_law_1377 : decode cL_law 1377 = .ok (.iload 8, 2) := by decide +kernel
theorem dL_law_1379 : decode cL_law 1379 = .ok (.invokestatic 149, 3) := by decide +kernel
theorem dL_law_1382 : decode cL_law 1382 = .ok (.sipush (-7100), 3) := by decide +kernel
theorem dL_law_1385 : decode cL_law 1385 = .ok (.if_icmp .ne 7, 3) := by decide +kernel
theorem dL_law_1388 : decode cL_law 1388 = .ok (.iconst 1, 1) := by decide +kernel
theorem dL_law_1389 : decode cL_law 1389 = .ok (.goto 4, 3) := by decide +kernel
theorem dL_law_1392 : decode cL_law 1392 = .ok (.iconst 0, 1) := by decide +kernel
theorem dL_law_1393 : decode cL_law 1393 = .ok (.istore 9, 2) := by decide +kernel
theorem dL_law_1395 : decode cL_law 1395 = .ok (.goto 345, 3) := by decide +kernel
theorem dL_law_1398 : decode cL_law 1398 = .ok (.iload 24, 2) := by decide +kernel
theorem dL_law_1400 : decode cL_law 1400 = .ok (.sipush 900, 3) := by decide +kernel
theorem dL_law_1403 : decode cL_law 1403 = .ok (.if_icmp .le 6, 3) := by decide +kernel
theorem dL_law_1406 : decode cL_law 1406 = .ok (.goto 334, 3) := by decide +kernel
theorem dL_law_1409 : decode cL_law 1409 = .ok (.aload_n 3, 1) := by decide +kernel
theorem dL_law_1410 : decode cL_law 1410 = .ok (.iconst 0, 1) := by decide +kernel
theorem dL_law_1411 : decode cL_law 1411 = .ok (.iaload, 1) := by decide +kernel
theorem dL_law_1412 : decode cL_law 1412 = .ok (.ifCond .ne 7, 3) := by decide +kernel
theorem dL_law_1415 : decode cL_law 1415 = .ok (.iconst 0, 1) := by decide +kernel
theorem dL_law_1416 : decode cL_law 1416 = .ok (.goto 10, 3) := by decide +kernel
theorem dL_law_1419 : decode cL_law 1419 = .ok (.aload_n 2, 1) := by decide +kernel
theorem dL_law_1420 : decode cL_law 1420 = .ok (.aload_n 3, 1) := by decide +kernel
theorem dL_law_1421 : decode cL_law 1421 = .ok (.aload 4, 2) := by decide +kernel
theorem dL_law_1423 : decode cL_law 1423 = .ok (.invokestatic 154, 3) := by decide +kernel
theorem dL_law_1426 : decode cL_law 1426 = .ok (.istore 27, 2) := by decide +kernel
theorem dL_law_1428 : decode cL_law 1428 = .ok (.aload_n 1, 1) := by decide +kernel
theorem dL_law_1429 : decode cL_law 1429 = .ok (.invokestatic 146, 3) := by decide +kernel
theorem dL_law_1432 : decode cL_law 1432 = .ok (.iload 27, 2) := by decide +kernel
theorem dL_law_1434 : decode cL_law 1434 = .ok (.if_icmp .ne 7, 3) := by decide +kernel
theorem dL_law_1437 : decode cL_law 1437 = .ok (.iconst 1, 1) := by decide +kernel
theorem dL_law_1438 : decode cL_law 1438 = .ok (.goto 4, 3) := by decide +kernel
theorem dL_law_1441 : decode cL_law 1441 = .ok (.iconst 0, 1) := by decide +kernel
theorem dL_law_1442 : decode cL_law 1442 = .ok (.istore 9, 2) := by decide +kernel
theorem dL_law_1444 : decode cL_law 1444 = .ok (.aload_n 3, 1) := by decide +kernel
theorem dL_law_1445 : decode cL_law 1445 = .ok (.iconst 0, 1) := by decide +kernel
theorem dL_law_1446 : decode cL_law 1446 = .ok (.iaload, 1) := by decide +kernel
theorem dL_law_1447 : decode cL_law 1447 = .ok (.ifCond .ne 7, 3) := by decide +kernel
theorem dL_law_1450 : decode cL_law 1450 = .ok (.iconst (-1), 1) := by decide +kernel
theorem dL_law_1451 : decode cL_law 1451 = .ok (.goto 14, 3) := by decide +kernel
theorem dL_law_1454 : decode cL_law 1454 = .ok (.iload 26, 2) := by decide +kernel
theorem dL_law_1456 : decode cL_law 1456 = .ok (.iload 25, 2) := by decide +kernel
theorem dL_law_1458 : decode cL_law 1458 = .ok (.aload_n 2, 1) := by decide +kernel
theorem dL_law_1459 : decode cL_law 1459 = .ok (.aload_n 3, 1) := by decide +kernel
theorem dL_law_1460 : decode cL_law 1460 = .ok (.aload 4, 2) := by decide +kernel
theorem dL_law_1462 : decode cL_law 1462 = .ok (.invokestatic 158, 3) := by decide +kernel
theorem dL_law_1465 : decode cL_law 1465 = .ok (.istore 28, 2) := by decide +kernel
theorem dL_law_1467 : decode cL_law 1467 = .ok (.bipush 25, 2) := by decide +kernel
theorem dL_law_1469 : decode cL_law 1469 = .ok (.newarray .int, 2) := by decide +kernel
theorem dL_law_1471 : decode cL_law 1471 = .ok (.astore 29, 2) := by decide +kernel
theorem dL_law_1473 : decode cL_law 1473 = .ok (.iconst 0, 1) := by decide +kernel
theorem dL_law_1474 : decode cL_law 1474 = .ok (.istore 30, 2) := by decide +kernel
theorem dL_law_1476 : decode cL_law 1476 = .ok (.iload 30, 2) := by decide +kernel
theorem dL_law_1478 : decode cL_law 1478 = .ok (.bipush 25, 2) := by decide +kernel
theorem dL_law_1480 : decode cL_law 1480 = .ok (.if_icmp .ge 18, 3) := by decide +kernel
theorem dL_law_1483 : decode cL_law 1483 = .ok (.aload 29, 2) := by decide +kernel
theorem dL_law_1485 : decode cL_law 1485 = .ok (.iload 30, 2) := by decide +kernel
theorem dL_law_1487 : decode cL_law 1487 = .ok (.aload_n 2, 1) := by decide +kernel
theorem dL_law_1488 : decode cL_law 1488 = .ok (.iload 30, 2) := by decide +kernel
theorem dL_law_1490 : decode cL_law 1490 = .ok (.iaload, 1) := by decide +kernel
theorem dL_law_1491 : decode cL_law 1491 = .ok (.iastore, 1) := by decide +kernel
theorem dL_law_1492 : decode cL_law 1492 = .ok (.iinc 30 1, 3) := by decide +kernel
theorem dL_law_1495 : decode cL_law 1495 = .ok (.goto (-19), 3) := by decide +kernel
theorem dL_law_1498 : decode cL_law 1498 = .ok (.iload 28, 2) := by decide +kernel
theorem dL_law_1500 : decode cL_law 1500 = .ok (.iconst (-1), 1) := by decide +kernel
theorem dL_law_1501 : decode cL_law 1501 = .ok (.if_icmp .eq 11, 3) := by decide +kernel
theorem dL_law_1504 : decode cL_law 1504 = .ok (.iload 28, 2) := by decide +kernel
theorem dL_law_1506 : decode cL_law 1506 = .ok (.aload 29, 2) := by decide +kernel
theorem dL_law_1508 : decode cL_law 1508 = .ok (.aload_n 3, 1) := by decide +kernel
theorem dL_law_1509 : decode cL_law 1509 = .ok (.invokestatic 89, 3) := by decide +kernel
theorem dL_law_1512 : decode cL_law 1512 = .ok (.iconst 0, 1) := by decide +kernel
theorem dL_law_1513 : decode cL_law 1513 = .ok (.istore 30, 2) := by decide +kernel
theorem dL_law_1515 : decode cL_law 1515 = .ok (.iload 30, 2) := by decide +kernel
theorem dL_law_1517 : decode cL_law 1517 = .ok (.aload_n 3, 1) := by decide +kernel
theorem dL_law_1518 : decode cL_law 1518 = .ok (.iconst 0, 1) := by decide +kernel
theorem dL_law_1519 : decode cL_law 1519 = .ok (.iaload, 1) := by decide +kernel
theorem dL_law_1520 : decode cL_law 1520 = .ok (.if_icmp .ge 53, 3) := by decide +kernel
theorem dL_law_1523 : decode cL_law 1523 = .ok (.iload 9, 2) := by decide +kernel
theorem dL_law_1525 : decode cL_law 1525 = .ok (.aload_n 1, 1) := by decide +kernel
theorem dL_law_1526 : decode cL_law 1526 = .ok (.iload 26, 2) := by decide +kernel
theorem dL_law_1528 : decode cL_law 1528 = .ok (.iload 25, 2) := by decide +kernel
theorem dL_law_1530 : decode cL_law 1530 = .ok (.iload 30, 2) := by decide +kernel
theorem dL_law_1532 : decode cL_law 1532 = .ok (.invokestatic 149, 3) := by decide +kernel
theorem dL_law_1535 : decode cL_law 1535 = .ok (.iload 28, 2) := by decide +kernel
theorem dL_law_1537 : decode cL_law 1537 = .ok (.iconst (-1), 1) := by decide +kernel
theorem dL_law_1538 : decode cL_law 1538 = .ok (.if_icmp .ne 9, 3) := by decide +kernel
theorem dL_law_1541 : decode cL_law 1541 = .ok (.sipush (-7100), 3) := by decide +kernel
theorem dL_law_1544 : decode cL_law 1544 = .ok (.goto 12, 3) := by decide +kernel
theorem dL_law_1547 : decode cL_law 1547 = .ok (.aload 29, 2) := by decide +kernel
theorem dL_law_1549 : decode cL_law 1549 = .ok (.iconst 5, 1) := by decide +kernel
theorem dL_law_1550 : decode cL_law 1550 = .ok (.iload 30, 2) := by decide +kernel
theorem dL_law_1552 : decode cL_law 1552 = .ok (.imul, 1) := by decide +kernel
theorem dL_law_1553 : decode cL_law 1553 = .ok (.iconst 4, 1) := by decide +kernel
theorem dL_law_1554 : decode cL_law 1554 = .ok (.iadd, 1) := by decide +kernel
theorem dL_law_1555 : decode cL_law 1555 = .ok (.iaload, 1) := by decide +kernel
theorem dL_law_1556 : decode cL_law 1556 = .ok (.if_icmp .ne 7, 3) := by decide +kernel
theorem dL_law_1559 : decode cL_law 1559 = .ok (.iconst 1, 1) := by decide +kernel
theorem dL_law_1560 : decode cL_law 1560 = .ok (.goto 4, 3) := by decide +kernel
theorem dL_law_1563 : decode cL_law 1563 = .ok (.iconst 0, 1) := by decide +kernel
theorem dL_law_1564 : decode cL_law 1564 = .ok (.iand, 1) := by decide +kernel
theorem dL_law_1565 : decode cL_law 1565 = .ok (.istore 9, 2) := by decide +kernel
theorem dL_law_1567 : decode cL_law 1567 = .ok (.iinc 30 1, 3) := by decide +kernel
theorem dL_law_1570 : decode cL_law 1570 = .ok (.goto (-55), 3) := by decide +kernel
theorem dL_law_1573 : decode cL_law 1573 = .ok (.iload 9, 2) := by decide +kernel
theorem dL_law_1575 : decode cL_law 1575 = .ok (.aload_n 1, 1) := by decide +kernel
theorem dL_law_1576 : decode cL_law 1576 = .ok (.iload 26, 2) := by decide +kernel
theorem dL_law_1578 : decode cL_law 1578 = .ok (.iload 25, 2) := by decide +kernel
theorem dL_law_1580 : decode cL_law 1580 = .ok (.aload_n 3, 1) := by decide +kernel
theorem dL_law_1581 : decode cL_law 1581 = .ok (.iconst 0, 1) := by decide +kernel
theorem dL_law_1582 : decode cL_law 1582 = .ok (.iaload, 1) := by decide +kernel
theorem dL_law_1583 : decode cL_law 1583 = .ok (.invokestatic 149, 3) := by decide +kernel
theorem dL_law_1586 : decode cL_law 1586 = .ok (.sipush (-7100), 3) := by decide +kernel
theorem dL_law_1589 : decode cL_law 1589 = .ok (.if_icmp .ne 33, 3) := by decide +kernel
theorem dL_law_1592 : decode cL_law 1592 = .ok (.iload 28, 2) := by decide +kernel
theorem dL_law_1594 : decode cL_law 1594 = .ok (.iconst (-1), 1) := by decide +kernel
theorem dL_law_1595 : decode cL_law 1595 = .ok (.if_icmp .ne 7, 3) := by decide +kernel
theorem dL_law_1598 : decode cL_law 1598 = .ok (.iconst 1, 1) := by decide +kernel
theorem dL_law_1599 : decode cL_law 1599 = .ok (.goto 4, 3) := by decide +kernel
theorem dL_law_1602 : decode cL_law 1602 = .ok (.iconst 0, 1) := by decide +kernel
theorem dL_law_1603 : decode cL_law 1603 = .ok (.iload 26, 2) := by decide +kernel
theorem dL_law_1605 : decode cL_law 1605 = .ok (.iload 27, 2) := by decide +kernel
theorem dL_law_1607 : decode cL_law 1607 = .ok (.if_icmp .lt 7, 3) := by decide +kernel
theorem dL_law_1610 : decode cL_law 1610 = .ok (.iconst 1, 1) := by decide +kernel
theorem dL_law_1611 : decode cL_law 1611 = .ok (.goto 4, 3) := by decide +kernel
theorem dL_law_1614 : decode cL_law 1614 = .ok (.iconst 0, 1) := by decide +kernel
theorem dL_law_1615 : decode cL_law 1615 = .ok (.if_icmp .ne 7, 3) := by decide +kernel
theorem dL_law_1618 : decode cL_law 1618 = .ok (.iconst 1, 1) := by decide +kernel
theorem dL_law_1619 : decode cL_law 1619 = .ok (.goto 4, 3) := by decide +kernel
theorem dL_law_1622 : decode cL_law 1622 = .ok (.iconst 0, 1) := by decide +kernel
theorem dL_law_1623 : decode cL_law 1623 = .ok (.iand, 1) := by decide +kernel
theorem dL_law_1624 : decode cL_law 1624 = .ok (.istore 9, 2) := by decide +kernel
theorem dL_law_1626 : decode cL_law 1626 = .ok (.iload 7, 2) := by decide +kernel
theorem dL_law_1628 : decode cL_law 1628 = .ok (.iconst 1, 1) := by decide +kernel
theorem dL_law_1629 : decode cL_law 1629 = .ok (.iand, 1) := by decide +kernel
theorem dL_law_1630 : decode cL_law 1630 = .ok (.ifCond .ne 6, 3) := by decide +kernel
theorem dL_law_1633 : decode cL_law 1633 = .ok (.goto 107, 3) := by decide +kernel
theorem dL_law_1636 : decode cL_law 1636 = .ok (.iload 28, 2) := by decide +kernel
theorem dL_law_1638 : decode cL_law 1638 = .ok (.iconst (-1), 1) := by decide +kernel
theorem dL_law_1639 : decode cL_law 1639 = .ok (.if_icmp .ne 45, 3) := by decide +kernel
theorem dL_law_1642 : decode cL_law 1642 = .ok (.iload 9, 2) := by decide +kernel
theorem dL_law_1644 : decode cL_law 1644 = .ok (.aload_n 1, 1) := by decide +kernel
theorem dL_law_1645 : decode cL_law 1645 = .ok (.iload 26, 2) := by decide +kernel
theorem dL_law_1647 : decode cL_law 1647 = .ok (.iload 25, 2) := by decide +kernel
theorem dL_law_1649 : decode cL_law 1649 = .ok (.invokestatic 152, 3) := by decide +kernel
theorem dL_law_1652 : decode cL_law 1652 = .ok (.ldc2_w 62, 3) := by decide +kernel
theorem dL_law_1655 : decode cL_law 1655 = .ok (.lcmp, 1) := by decide +kernel
theorem dL_law_1656 : decode cL_law 1656 = .ok (.ifCond .ne 21, 3) := by decide +kernel
theorem dL_law_1659 : decode cL_law 1659 = .ok (.aload_n 1, 1) := by decide +kernel
theorem dL_law_1660 : decode cL_law 1660 = .ok (.iload 26, 2) := by decide +kernel
theorem dL_law_1662 : decode cL_law 1662 = .ok (.iconst 3, 1) := by decide +kernel
theorem dL_law_1663 : decode cL_law 1663 = .ok (.invokestatic 152, 3) := by decide +kernel
theorem dL_law_1666 : decode cL_law 1666 = .ok (.ldc2_w 62, 3) := by decide +kernel
theorem dL_law_1669 : decode cL_law 1669 = .ok (.lcmp, 1) := by decide +kernel
theorem dL_law_1670 : decode cL_law 1670 = .ok (.ifCond .ne 7, 3) := by decide +kernel
theorem dL_law_1673 : decode cL_law 1673 = .ok (.iconst 1, 1) := by decide +kernel
theorem dL_law_1674 : decode cL_law 1674 = .ok (.goto 4, 3) := by decide +kernel
theorem dL_law_1677 : decode cL_law 1677 = .ok (.iconst 0, 1) := by decide +kernel
theorem dL_law_1678 : decode cL_law 1678 = .ok (.iand, 1) := by decide +kernel
theorem dL_law_1679 : decode cL_law 1679 = .ok (.istore 9, 2) := by decide +kernel
theorem dL_law_1681 : decode cL_law 1681 = .ok (.goto 59, 3) := by decide +kernel
theorem dL_law_1684 : decode cL_law 1684 = .ok (.iconst 0, 1) := by decide +kernel
theorem dL_law_1685 : decode cL_law 1685 = .ok (.istore 30, 2) := by decide +kernel
theorem dL_law_1687 : decode cL_law 1687 = .ok (.iload 30, 2) := by decide +kernel
theorem dL_law_1689 : decode cL_law 1689 = .ok (.bipush 25, 2) := by decide +kernel
theorem dL_law_1691 : decode cL_law 1691 = .ok (.if_icmp .ge 18, 3) := by decide +kernel
theorem dL_law_1694 : decode cL_law 1694 = .ok (.aload_n 2, 1) := by decide +kernel
theorem dL_law_1695 : decode cL_law 1695 = .ok (.iload 30, 2) := by decide +kernel
theorem dL_law_1697 : decode cL_law 1697 = .ok (.aload 29, 2) := by decide +kernel
theorem dL_law_1699 : decode cL_law 1699 = .ok (.iload 30, 2) := by decide +kernel
theorem dL_law_1701 : decode cL_law 1701 = .ok (.iaload, 1) := by decide +kernel
theorem dL_law_1702 : decode cL_law 1702 = .ok (.iastore, 1) := by decide +kernel
theorem dL_law_1703 : decode cL_law 1703 = .ok (.iinc 30 1, 3) := by decide +kernel
theorem dL_law_1706 : decode cL_law 1706 = .ok (.goto (-19), 3) := by decide +kernel
theorem dL_law_1709 : decode cL_law 1709 = .ok (.iload 9, 2) := by decide +kernel
theorem dL_law_1711 : decode cL_law 1711 = .ok (.aload_n 1, 1) := by decide +kernel
theorem dL_law_1712 : decode cL_law 1712 = .ok (.iload 26, 2) := by decide +kernel
theorem dL_law_1714 : decode cL_law 1714 = .ok (.iload 25, 2) := by decide +kernel
theorem dL_law_1716 : decode cL_law 1716 = .ok (.invokestatic 152, 3) := by decide +kernel
theorem dL_law_1719 : decode cL_law 1719 = .ok (.iconst (-1), 1) := by decide +kernel
theorem dL_law_1720 : decode cL_law 1720 = .ok (.iconst 0, 1) := by decide +kernel
theorem dL_law_1721 : decode cL_law 1721 = .ok (.aload_n 2, 1) := by decide +kernel
theorem dL_law_1722 : decode cL_law 1722 = .ok (.aload_n 3, 1) := by decide +kernel
theorem dL_law_1723 : decode cL_law 1723 = .ok (.aload 4, 2) := by decide +kernel
theorem dL_law_1725 : decode cL_law 1725 = .ok (.invokestatic 106, 3) := by decide +kernel
theorem dL_law_1728 : decode cL_law 1728 = .ok (.lcmp, 1) := by decide +kernel
theorem dL_law_1729 : decode cL_law 1729 = .ok (.ifCond .ne 7, 3) := by decide +kernel
theorem dL_law_1732 : decode cL_law 1732 = .ok (.iconst 1, 1) := by decide +kernel
theorem dL_law_1733 : decode cL_law 1733 = .ok (.goto 4, 3) := by decide +kernel
theorem dL_law_1736 : decode cL_law 1736 = .ok (.iconst 0, 1) := by decide +kernel
theorem dL_law_1737 : decode cL_law 1737 = .ok (.iand, 1) := by decide +kernel
theorem dL_law_1738 : decode cL_law 1738 = .ok (.istore 9, 2) := by decide +kernel
theorem dL_law_1740 : decode cL_law 1740 = .ok (.iload 9, 2) := by decide +kernel
theorem dL_law_1742 : decode cL_law 1742 = .ok (.ifCond .eq 16, 3) := by decide +kernel
theorem dL_law_1745 : decode cL_law 1745 = .ok (.aload_n 1, 1) := by decide +kernel
theorem dL_law_1746 : decode cL_law 1746 = .ok (.iload 7, 2) := by decide +kernel
theorem dL_law_1748 : decode cL_law 1748 = .ok (.aload_n 2, 1) := by decide +kernel
theorem dL_law_1749 : decode cL_law 1749 = .ok (.aload_n 3, 1) := by decide +kernel
theorem dL_law_1750 : decode cL_law 1750 = .ok (.aload 4, 2) := by decide +kernel
theorem dL_law_1752 : decode cL_law 1752 = .ok (.invokestatic 162, 3) := by decide +kernel
theorem dL_law_1755 : decode cL_law 1755 = .ok (.ifCond .ne 5, 3) := by decide +kernel
theorem dL_law_1758 : decode cL_law 1758 = .ok (.iconst 0, 1) := by decide +kernel
theorem dL_law_1759 : decode cL_law 1759 = .ok (.ireturn, 1) := by decide +kernel
theorem dL_law_1760 : decode cL_law 1760 = .ok (.iinc 5 1, 3) := by decide +kernel
theorem dL_law_1763 : decode cL_law 1763 = .ok (.goto (-1609), 3) := by decide +kernel
theorem dL_law_1766 : decode cL_law 1766 = .ok (.aload_n 1, 1) := by decide +kernel
theorem dL_law_1767 : decode cL_law 1767 = .ok (.iconst 2, 1) := by decide +kernel
theorem dL_law_1768 : decode cL_law 1768 = .ok (.iconst 0, 1) := by decide +kernel
theorem dL_law_1769 : decode cL_law 1769 = .ok (.iconst 0, 1) := by decide +kernel
theorem dL_law_1770 : decode cL_law 1770 = .ok (.iconst 0, 1) := by decide +kernel
theorem dL_law_1771 : decode cL_law 1771 = .ok (.invokestatic 129, 3) := by decide +kernel
theorem dL_law_1774 : decode cL_law 1774 = .ok (.sipush (-7200), 3) := by decide +kernel
theorem dL_law_1777 : decode cL_law 1777 = .ok (.if_icmp .ne 18, 3) := by decide +kernel
theorem dL_law_1780 : decode cL_law 1780 = .ok (.aload_n 1, 1) := by decide +kernel
theorem dL_law_1781 : decode cL_law 1781 = .ok (.iconst 0, 1) := by decide +kernel
theorem dL_law_1782 : decode cL_law 1782 = .ok (.invokestatic 143, 3) := by decide +kernel
theorem dL_law_1785 : decode cL_law 1785 = .ok (.sipush (-7200), 3) := by decide +kernel
theorem dL_law_1788 : decode cL_law 1788 = .ok (.if_icmp .ne 7, 3) := by decide +kernel
theorem dL_law_1791 : decode cL_law 1791 = .ok (.iconst 1, 1) := by decide +kernel
theorem dL_law_1792 : decode cL_law 1792 = .ok (.goto 4, 3) := by decide +kernel
theorem dL_law_1795 : decode cL_law 1795 = .ok (.iconst 0, 1) := by decide +kernel
theorem dL_law_1796 : decode cL_law 1796 = .ok (.ireturn, 1) := by decide +kernel
abbrev vwCl : List vw_C := [(RX0, TX0, 6), (RX1, TX1, 3), (RX2, TX2, 3), (RX3, TX3, 7), (RX4, TX4, 3), (RX5, TX5, 7)]

/-! THE LAW'S CASES, 2 -/
theorem dL_law_1080 : decode cL_law 1080 = .ok (.aload_n 1, 1) := dqo_43 (kb_16 56 rfl)
theorem dL_law_1081 : decode cL_law 1081 = .ok (.aload_n 0, 1) := dqo_42 (kb_16 57 rfl)
theorem dL_law_1082 : decode cL_law 1082 = .ok (.iload 4, 2) := dqo_21 4 (kb_16 58 rfl) (kb_16 59 rfl)
theorem dL_law_1084 : decode cL_law 1084 = .ok (.iconst 1, 1) := dqo_4 (kb_16 60 rfl)
theorem dL_law_1085 : decode cL_law 1085 = .ok (.iadd, 1) := dqo_96 (kb_16 61 rfl)
theorem dL_law_1086 : decode cL_law 1086 = .ok (.iaload, 1) := dqo_46 (kb_16 62 rfl)
theorem dL_law_1087 : decode cL_law 1087 = .ok (.aload_n 0, 1) := dqo_42 (kb_16 63 rfl)
theorem dL_law_1088 : decode cL_law 1088 = .ok (.iload 4, 2) := dqo_21 4 (kb_17 0 rfl) (kb_17 1 rfl)
theorem dL_law_1090 : decode cL_law 1090 = .ok (.iconst 2, 1) := dqo_5 (kb_17 2 rfl)
theorem dL_law_1091 : decode cL_law 1091 = .ok (.iadd, 1) := dqo_96 (kb_17 3 rfl)
theorem dL_law_1092 : decode cL_law 1092 = .ok (.iaload, 1) := dqo_46 (kb_17 4 rfl)
theorem dL_law_1093 : decode cL_law 1093 = .ok (.aload_n 3, 1) := dqo_45 (kb_17 5 rfl)
theorem dL_law_1094 : decode cL_law 1094 = .ok (.invokestatic 221, 3) := dqo_184 0 221 (kb_17 6 rfl) (kb_17 7 rfl) (kb_17 8 rfl)
theorem dL_law_1097 : decode cL_law 1097 = .ok (.istore 5, 2) := dqo_54 5 (kb_17 9 rfl) (kb_17 10 rfl)
theorem dL_law_1099 : decode cL_law 1099 = .ok (.aload_n 2, 1) := dqo_44 (kb_17 11 rfl)
theorem dL_law_1100 : decode cL_law 1100 = .ok (.aload_n 0, 1) := dqo_42 (kb_17 12 rfl)
theorem dL_law_1101 : decode cL_law 1101 = .ok (.iload 4, 2) := dqo_21 4 (kb_17 13 rfl) (kb_17 14 rfl)
theorem dL_law_1103 : decode cL_law 1103 = .ok (.iconst 1, 1) := dqo_4 (kb_17 15 rfl)
theorem dL_law_1104 : decode cL_law 1104 = .ok (.iadd, 1) := dqo_96 (kb_17 16 rfl)
theorem dL_law_1105 : decode cL_law 1105 = .ok (.iaload, 1) := dqo_46 (kb_17 17 rfl)
theorem dL_law_1106 : decode cL_law 1106 = .ok (.aload_n 0, 1) := dqo_42 (kb_17 18 rfl)
theorem dL_law_1107 : decode cL_law 1107 = .ok (.iload 4, 2) := dqo_21 4 (kb_17 19 rfl) (kb_17 20 rfl)
theorem dL_law_1109 : decode cL_law 1109 = .ok (.iconst 2, 1) := dqo_5 (kb_17 21 rfl)
theorem dL_law_1110 : decode cL_law 1110 = .ok (.iadd, 1) := dqo_96 (kb_17 22 rfl)
theorem dL_law_1111 : decode cL_law 1111 = .ok (.iaload, 1) := dqo_46 (kb_17 23 rfl)
theorem dL_law_1112 : decode cL_law 1112 = .ok (.invokevirtual 223, 3) := dqo_182 0 223 (kb_17 24 rfl) (kb_17 25 rfl) (kb_17 26 rfl)
theorem dL_law_1115 : decode cL_law 1115 = .ok (.istore 6, 2) := dqo_54 6 (kb_17 27 rfl) (kb_17 28 rfl)
theorem dL_law_1117 : decode cL_law 1117 = .ok (.aload_n 2, 1) := dqo_44 (kb_17 29 rfl)
theorem dL_law_1118 : decode cL_law 1118 = .ok (.invokevirtual 181, 3) := dqo_182 0 181 (kb_17 30 rfl) (kb_17 31 rfl) (kb_17 32 rfl)
theorem dL_law_1121 : decode cL_law 1121 = .ok (.iload 5, 2) := dqo_21 5 (kb_17 33 rfl) (kb_17 34 rfl)
theorem dL_law_1123 : decode cL_law 1123 = .ok (.if_icmp .eq 5, 3) := dqo_159 0 5 (by decide) (kb_17 35 rfl) (kb_17 36 rfl) (kb_17 37 rfl)
theorem dL_law_1128 : decode cL_law 1128 = .ok (.iload 5, 2) := dqo_21 5 (kb_17 40 rfl) (kb_17 41 rfl)
theorem dL_law_1130 : decode cL_law 1130 = .ok (.ifCond .ne 16, 3) := dqo_154 0 16 (by decide) (kb_17 42 rfl) (kb_17 43 rfl) (kb_17 44 rfl)
theorem dL_law_1133 : decode cL_law 1133 = .ok (.aload_n 3, 1) := dqo_45 (kb_17 45 rfl)
theorem dL_law_1134 : decode cL_law 1134 = .ok (.getfield 13, 3) := dqo_180 0 13 (kb_17 46 rfl) (kb_17 47 rfl) (kb_17 48 rfl)
theorem dL_law_1137 : decode cL_law 1137 = .ok (.iload 6, 2) := dqo_21 6 (kb_17 49 rfl) (kb_17 50 rfl)
theorem dL_law_1139 : decode cL_law 1139 = .ok (.i2l, 1) := dqo_133 (kb_17 51 rfl)
theorem dL_law_1140 : decode cL_law 1140 = .ok (.lcmp, 1) := dqo_148 (kb_17 52 rfl)
theorem dL_law_1141 : decode cL_law 1141 = .ok (.ifCond .eq 5, 3) := dqo_153 0 5 (by decide) (kb_17 53 rfl) (kb_17 54 rfl) (kb_17 55 rfl)
theorem dL_law_1146 : decode cL_law 1146 = .ok (.goto 2310, 3) := dqo_167 9 6 (by decide) (kb_17 58 rfl) (kb_17 59 rfl) (kb_17 60 rfl)
theorem dL_law_1149 : decode cL_law 1149 = .ok (.aload_n 1, 1) := dqo_43 (kb_17 61 rfl)
theorem dL_law_1150 : decode cL_law 1150 = .ok (.aload_n 0, 1) := dqo_42 (kb_17 62 rfl)
theorem dL_law_1151 : decode cL_law 1151 = .ok (.iload 4, 2) := dqo_21 4 (kb_17 63 rfl) (kb_18 0 rfl)
theorem dL_law_1153 : decode cL_law 1153 = .ok (.iconst 1, 1) := dqo_4 (kb_18 1 rfl)
theorem dL_law_1154 : decode cL_law 1154 = .ok (.iadd, 1) := dqo_96 (kb_18 2 rfl)
theorem dL_law_1155 : decode cL_law 1155 = .ok (.iaload, 1) := dqo_46 (kb_18 3 rfl)
theorem dL_law_1156 : decode cL_law 1156 = .ok (.aload_n 0, 1) := dqo_42 (kb_18 4 rfl)
theorem dL_law_1157 : decode cL_law 1157 = .ok (.iload 4, 2) := dqo_21 4 (kb_18 5 rfl) (kb_18 6 rfl)
theorem dL_law_1159 : decode cL_law 1159 = .ok (.iconst 2, 1) := dqo_5 (kb_18 7 rfl)
theorem dL_law_1160 : decode cL_law 1160 = .ok (.iadd, 1) := dqo_96 (kb_18 8 rfl)
theorem dL_law_1161 : decode cL_law 1161 = .ok (.iaload, 1) := dqo_46 (kb_18 9 rfl)
theorem dL_law_1162 : decode cL_law 1162 = .ok (.aload_n 3, 1) := dqo_45 (kb_18 10 rfl)
theorem dL_law_1163 : decode cL_law 1163 = .ok (.invokestatic 224, 3) := dqo_184 0 224 (kb_18 11 rfl) (kb_18 12 rfl) (kb_18 13 rfl)
theorem dL_law_1166 : decode cL_law 1166 = .ok (.istore 5, 2) := dqo_54 5 (kb_18 14 rfl) (kb_18 15 rfl)
theorem dL_law_1168 : decode cL_law 1168 = .ok (.aload_n 2, 1) := dqo_44 (kb_18 16 rfl)
theorem dL_law_1169 : decode cL_law 1169 = .ok (.aload_n 0, 1) := dqo_42 (kb_18 17 rfl)
theorem dL_law_1170 : decode cL_law 1170 = .ok (.iload 4, 2) := dqo_21 4 (kb_18 18 rfl) (kb_18 19 rfl)
theorem dL_law_1172 : decode cL_law 1172 = .ok (.iconst 1, 1) := dqo_4 (kb_18 20 rfl)
theorem dL_law_1173 : decode cL_law 1173 = .ok (.iadd, 1) := dqo_96 (kb_18 21 rfl)
theorem dL_law_1174 : decode cL_law 1174 = .ok (.iaload, 1) := dqo_46 (kb_18 22 rfl)
theorem dL_law_1175 : decode cL_law 1175 = .ok (.aload_n 0, 1) := dqo_42 (kb_18 23 rfl)
theorem dL_law_1176 : decode cL_law 1176 = .ok (.iload 4, 2) := dqo_21 4 (kb_18 24 rfl) (kb_18 25 rfl)
theorem dL_law_1178 : decode cL_law 1178 = .ok (.iconst 2, 1) := dqo_5 (kb_18 26 rfl)
theorem dL_law_1179 : decode cL_law 1179 = .ok (.iadd, 1) := dqo_96 (kb_18 27 rfl)
theorem dL_law_1180 : decode cL_law 1180 = .ok (.iaload, 1) := dqo_46 (kb_18 28 rfl)
theorem dL_law_1181 : decode cL_law 1181 = .ok (.invokevirtual 226, 3) := dqo_182 0 226 (kb_18 29 rfl) (kb_18 30 rfl) (kb_18 31 rfl)
theorem dL_law_1184 : decode cL_law 1184 = .ok (.istore 6, 2) := dqo_54 6 (kb_18 32 rfl) (kb_18 33 rfl)
theorem dL_law_1186 : decode cL_law 1186 = .ok (.aload_n 2, 1) := dqo_44 (kb_18 34 rfl)
theorem dL_law_1187 : decode cL_law 1187 = .ok (.invokevirtual 181, 3) := dqo_182 0 181 (kb_18 35 rfl) (kb_18 36 rfl) (kb_18 37 rfl)
theorem dL_law_1190 : decode cL_law 1190 = .ok (.iload 5, 2) := dqo_21 5 (kb_18 38 rfl) (kb_18 39 rfl)
theorem dL_law_1192 : decode cL_law 1192 = .ok (.if_icmp .eq 5, 3) := dqo_159 0 5 (by decide) (kb_18 40 rfl) (kb_18 41 rfl) (kb_18 42 rfl)
theorem dL_law_1197 : decode cL_law 1197 = .ok (.iload 5, 2) := dqo_21 5 (kb_18 45 rfl) (kb_18 46 rfl)
theorem dL_law_1199 : decode cL_law 1199 = .ok (.ifCond .ne 16, 3) := dqo_154 0 16 (by decide) (kb_18 47 rfl) (kb_18 48 rfl) (kb_18 49 rfl)
theorem dL_law_1202 : decode cL_law 1202 = .ok (.aload_n 3, 1) := dqo_45 (kb_18 50 rfl)
theorem dL_law_1203 : decode cL_law 1203 = .ok (.getfield 13, 3) := dqo_180 0 13 (kb_18 51 rfl) (kb_18 52 rfl) (kb_18 53 rfl)
theorem dL_law_1206 : decode cL_law 1206 = .ok (.iload 6, 2) := dqo_21 6 (kb_18 54 rfl) (kb_18 55 rfl)
theorem dL_law_1208 : decode cL_law 1208 = .ok (.i2l, 1) := dqo_133 (kb_18 56 rfl)
theorem dL_law_1209 : decode cL_law 1209 = .ok (.lcmp, 1) := dqo_148 (kb_18 57 rfl)
theorem dL_law_1210 : decode cL_law 1210 = .ok (.ifCond .eq 5, 3) := dqo_153 0 5 (by decide) (kb_18 58 rfl) (kb_18 59 rfl) (kb_18 60 rfl)
theorem dL_law_1215 : decode cL_law 1215 = .ok (.goto 2241, 3) := dqo_167 8 193 (by decide) (kb_18 63 rfl) (kb_19 0 rfl) (kb_19 1 rfl)
theorem dL_law_1218 : decode cL_law 1218 = .ok (.aload_n 1, 1) := dqo_43 (kb_19 2 rfl)
theorem dL_law_1219 : decode cL_law 1219 = .ok (.aload_n 0, 1) := dqo_42 (kb_19 3 rfl)
theorem dL_law_1220 : decode cL_law 1220 = .ok (.iload 4, 2) := dqo_21 4 (kb_19 4 rfl) (kb_19 5 rfl)
theorem dL_law_1222 : decode cL_law 1222 = .ok (.iconst 1, 1) := dqo_4 (kb_19 6 rfl)
theorem dL_law_1223 : decode cL_law 1223 = .ok (.iadd, 1) := dqo_96 (kb_19 7 rfl)
theorem dL_law_1224 : decode cL_law 1224 = .ok (.iaload, 1) := dqo_46 (kb_19 8 rfl)
theorem dL_law_1225 : decode cL_law 1225 = .ok (.aload_n 3, 1) := dqo_45 (kb_19 9 rfl)
theorem dL_law_1226 : decode cL_law 1226 = .ok (.invokestatic 227, 3) := dqo_184 0 227 (kb_19 10 rfl) (kb_19 11 rfl) (kb_19 12 rfl)
theorem dL_law_1229 : decode cL_law 1229 = .ok (.istore 5, 2) := dqo_54 5 (kb_19 13 rfl) (kb_19 14 rfl)
theorem dL_law_1231 : decode cL_law 1231 = .ok (.aload_n 2, 1) := dqo_44 (kb_19 15 rfl)
theorem dL_law_1232 : decode cL_law 1232 = .ok (.aload_n 0, 1) := dqo_42 (kb_19 16 rfl)
theorem dL_law_1233 : decode cL_law 1233 = .ok (.iload 4, 2) := dqo_21 4 (kb_19 17 rfl) (kb_19 18 rfl)
theorem dL_law_1235 : decode cL_law 1235 = .ok (.iconst 1, 1) := dqo_4 (kb_19 19 rfl)
theorem dL_law_1236 : decode cL_law 1236 = .ok (.iadd, 1) := dqo_96 (kb_19 20 rfl)
theorem dL_law_1237 : decode cL_law 1237 = .ok (.iaload, 1) := dqo_46 (kb_19 21 rfl)
theorem dL_law_1238 : decode cL_law 1238 = .ok (.invokevirtual 229, 3) := dqo_182 0 229 (kb_19 22 rfl) (kb_19 23 rfl) (kb_19 24 rfl)
theorem dL_law_1241 : decode cL_law 1241 = .ok (.istore 6, 2) := dqo_54 6 (kb_19 25 rfl) (kb_19 26 rfl)
theorem dL_law_1243 : decode cL_law 1243 = .ok (.aload_n 2, 1) := dqo_44 (kb_19 27 rfl)
theorem dL_law_1244 : decode cL_law 1244 = .ok (.invokevirtual 181, 3) := dqo_182 0 181 (kb_19 28 rfl) (kb_19 29 rfl) (kb_19 30 rfl)
theorem dL_law_1247 : decode cL_law 1247 = .ok (.iload 5, 2) := dqo_21 5 (kb_19 31 rfl) (kb_19 32 rfl)
theorem dL_law_1249 : decode cL_law 1249 = .ok (.if_icmp .eq 5, 3) := dqo_159 0 5 (by decide) (kb_19 33 rfl) (kb_19 34 rfl) (kb_19 35 rfl)
theorem dL_law_1254 : decode cL_law 1254 = .ok (.iload 5, 2) := dqo_21 5 (kb_19 38 rfl) (kb_19 39 rfl)
theorem dL_law_1256 : decode cL_law 1256 = .ok (.ifCond .ne 16, 3) := dqo_154 0 16 (by decide) (kb_19 40 rfl) (kb_19 41 rfl) (kb_19 42 rfl)
theorem dL_law_1259 : decode cL_law 1259 = .ok (.aload_n 3, 1) := dqo_45 (kb_19 43 rfl)
theorem dL_law_1260 : decode cL_law 1260 = .ok (.getfield 13, 3) := dqo_180 0 13 (kb_19 44 rfl) (kb_19 45 rfl) (kb_19 46 rfl)
theorem dL_law_1263 : decode cL_law 1263 = .ok (.iload 6, 2) := dqo_21 6 (kb_19 47 rfl) (kb_19 48 rfl)
theorem dL_law_1265 : decode cL_law 1265 = .ok (.i2l, 1) := dqo_133 (kb_19 49 rfl)
theorem dL_law_1266 : decode cL_law 1266 = .ok (.lcmp, 1) := dqo_148 (kb_19 50 rfl)
theorem dL_law_1267 : decode cL_law 1267 = .ok (.ifCond .eq 5, 3) := dqo_153 0 5 (by decide) (kb_19 51 rfl) (kb_19 52 rfl) (kb_19 53 rfl)
theorem dL_law_1272 : decode cL_law 1272 = .ok (.goto 2184, 3) := dqo_167 8 136 (by decide) (kb_19 56 rfl) (kb_19 57 rfl) (kb_19 58 rfl)
theorem dL_law_1275 : decode cL_law 1275 = .ok (.aload_n 1, 1) := dqo_43 (kb_19 59 rfl)
theorem dL_law_1276 : decode cL_law 1276 = .ok (.aload_n 0, 1) := dqo_42 (kb_19 60 rfl)
theorem dL_law_1277 : decode cL_law 1277 = .ok (.iload 4, 2) := dqo_21 4 (kb_19 61 rfl) (kb_19 62 rfl)
theorem dL_law_1279 : decode cL_law 1279 = .ok (.iconst 1, 1) := dqo_4 (kb_19 63 rfl)
theorem dL_law_1280 : decode cL_law 1280 = .ok (.iadd, 1) := dqo_96 (kb_20 0 rfl)
theorem dL_law_1281 : decode cL_law 1281 = .ok (.iaload, 1) := dqo_46 (kb_20 1 rfl)
theorem dL_law_1282 : decode cL_law 1282 = .ok (.aload_n 0, 1) := dqo_42 (kb_20 2 rfl)
theorem dL_law_1283 : decode cL_law 1283 = .ok (.iload 4, 2) := dqo_21 4 (kb_20 3 rfl) (kb_20 4 rfl)
theorem dL_law_1285 : decode cL_law 1285 = .ok (.iconst 2, 1) := dqo_5 (kb_20 5 rfl)
theorem dL_law_1286 : decode cL_law 1286 = .ok (.iadd, 1) := dqo_96 (kb_20 6 rfl)
theorem dL_law_1287 : decode cL_law 1287 = .ok (.iaload, 1) := dqo_46 (kb_20 7 rfl)
theorem dL_law_1288 : decode cL_law 1288 = .ok (.aload_n 3, 1) := dqo_45 (kb_20 8 rfl)
theorem dL_law_1289 : decode cL_law 1289 = .ok (.invokestatic 230, 3) := dqo_184 0 230 (kb_20 9 rfl) (kb_20 10 rfl) (kb_20 11 rfl)
theorem dL_law_1292 : decode cL_law 1292 = .ok (.istore 5, 2) := dqo_54 5 (kb_20 12 rfl) (kb_20 13 rfl)
theorem dL_law_1294 : decode cL_law 1294 = .ok (.aload_n 2, 1) := dqo_44 (kb_20 14 rfl)
theorem dL_law_1295 : decode cL_law 1295 = .ok (.aload_n 0, 1) := dqo_42 (kb_20 15 rfl)
theorem dL_law_1296 : decode cL_law 1296 = .ok (.iload 4, 2) := dqo_21 4 (kb_20 16 rfl) (kb_20 17 rfl)
theorem dL_law_1298 : decode cL_law 1298 = .ok (.iconst 1, 1) := dqo_4 (kb_20 18 rfl)
theorem dL_law_1299 : decode cL_law 1299 = .ok (.iadd, 1) := dqo_96 (kb_20 19 rfl)
theorem dL_law_1300 : decode cL_law 1300 = .ok (.iaload, 1) := dqo_46 (kb_20 20 rfl)
theorem dL_law_1301 : decode cL_law 1301 = .ok (.aload_n 0, 1) := dqo_42 (kb_20 21 rfl)
theorem dL_law_1302 : decode cL_law 1302 = .ok (.iload 4, 2) := dqo_21 4 (kb_20 22 rfl) (kb_20 23 rfl)
theorem dL_law_1304 : decode cL_law 1304 = .ok (.iconst 2, 1) := dqo_5 (kb_20 24 rfl)
theorem dL_law_1305 : decode cL_law 1305 = .ok (.iadd, 1) := dqo_96 (kb_20 25 rfl)
theorem dL_law_1306 : decode cL_law 1306 = .ok (.iaload, 1) := dqo_46 (kb_20 26 rfl)
theorem dL_law_1307 : decode cL_law 1307 = .ok (.invokevirtual 232, 3) := dqo_182 0 232 (kb_20 27 rfl) (kb_20 28 rfl) (kb_20 29 rfl)
theorem dL_law_1310 : decode cL_law 1310 = .ok (.istore 6, 2) := dqo_54 6 (kb_20 30 rfl) (kb_20 31 rfl)
theorem dL_law_1312 : decode cL_law 1312 = .ok (.aload_n 2, 1) := dqo_44 (kb_20 32 rfl)
theorem dL_law_1313 : decode cL_law 1313 = .ok (.invokevirtual 181, 3) := dqo_182 0 181 (kb_20 33 rfl) (kb_20 34 rfl) (kb_20 35 rfl)
theorem dL_law_1316 : decode cL_law 1316 = .ok (.iload 5, 2) := dqo_21 5 (kb_20 36 rfl) (kb_20 37 rfl)
theorem dL_law_1318 : decode cL_law 1318 = .ok (.if_icmp .eq 5, 3) := dqo_159 0 5 (by decide) (kb_20 38 rfl) (kb_20 39 rfl) (kb_20 40 rfl)
theorem dL_law_1323 : decode cL_law 1323 = .ok (.iload 5, 2) := dqo_21 5 (kb_20 43 rfl) (kb_20 44 rfl)
theorem dL_law_1325 : decode cL_law 1325 = .ok (.ifCond .ne 16, 3) := dqo_154 0 16 (by decide) (kb_20 45 rfl) (kb_20 46 rfl) (kb_20 47 rfl)
theorem dL_law_1328 : decode cL_law 1328 = .ok (.aload_n 3, 1) := dqo_45 (kb_20 48 rfl)
theorem dL_law_1329 : decode cL_law 1329 = .ok (.getfield 13, 3) := dqo_180 0 13 (kb_20 49 rfl) (kb_20 50 rfl) (kb_20 51 rfl)
theorem dL_law_1332 : decode cL_law 1332 = .ok (.iload 6, 2) := dqo_21 6 (kb_20 52 rfl) (kb_20 53 rfl)
theorem dL_law_1334 : decode cL_law 1334 = .ok (.i2l, 1) := dqo_133 (kb_20 54 rfl)
theorem dL_law_1335 : decode cL_law 1335 = .ok (.lcmp, 1) := dqo_148 (kb_20 55 rfl)
theorem dL_law_1336 : decode cL_law 1336 = .ok (.ifCond .eq 5, 3) := dqo_153 0 5 (by decide) (kb_20 56 rfl) (kb_20 57 rfl) (kb_20 58 rfl)
theorem dL_law_1341 : decode cL_law 1341 = .ok (.goto 2115, 3) := dqo_167 8 67 (by decide) (kb_20 61 rfl) (kb_20 62 rfl) (kb_20 63 rfl)
theorem dL_law_1344 : decode cL_law 1344 = .ok (.aload_n 1, 1) := dqo_43 (kb_21 0 rfl)
theorem dL_law_1345 : decode cL_law 1345 = .ok (.aload_n 0, 1) := dqo_42 (kb_21 1 rfl)
theorem dL_law_1346 : decode cL_law 1346 = .ok (.iload 4, 2) := dqo_21 4 (kb_21 2 rfl) (kb_21 3 rfl)
theorem dL_law_1348 : decode cL_law 1348 = .ok (.iconst 1, 1) := dqo_4 (kb_21 4 rfl)
theorem dL_law_1349 : decode cL_law 1349 = .ok (.iadd, 1) := dqo_96 (kb_21 5 rfl)
theorem dL_law_1350 : decode cL_law 1350 = .ok (.iaload, 1) := dqo_46 (kb_21 6 rfl)
theorem dL_law_1351 : decode cL_law 1351 = .ok (.aload_n 0, 1) := dqo_42 (kb_21 7 rfl)
theorem dL_law_1352 : decode cL_law 1352 = .ok (.iload 4, 2) := dqo_21 4 (kb_21 8 rfl) (kb_21 9 rfl)
theorem dL_law_1354 : decode cL_law 1354 = .ok (.iconst 2, 1) := dqo_5 (kb_21 10 rfl)
theorem dL_law_1355 : decode cL_law 1355 = .ok (.iadd, 1) := dqo_96 (kb_21 11 rfl)
theorem dL_law_1356 : decode cL_law 1356 = .ok (.iaload, 1) := dqo_46 (kb_21 12 rfl)
theorem dL_law_1357 : decode cL_law 1357 = .ok (.aload_n 3, 1) := dqo_45 (kb_21 13 rfl)
theorem dL_law_1358 : decode cL_law 1358 = .ok (.invokestatic 233, 3) := dqo_184 0 233 (kb_21 14 rfl) (kb_21 15 rfl) (kb_21 16 rfl)
theorem dL_law_1361 : decode cL_law 1361 = .ok (.istore 5, 2) := dqo_54 5 (kb_21 17 rfl) (kb_21 18 rfl)
theorem dL_law_1363 : decode cL_law 1363 = .ok (.aload_n 2, 1) := dqo_44 (kb_21 19 rfl)
theorem dL_law_1364 : decode cL_law 1364 = .ok (.aload_n 0, 1) := dqo_42 (kb_21 20 rfl)
theorem dL_law_1365 : decode cL_law 1365 = .ok (.iload 4, 2) := dqo_21 4 (kb_21 21 rfl) (kb_21 22 rfl)
theorem dL_law_1367 : decode cL_law 1367 = .ok (.iconst 1, 1) := dqo_4 (kb_21 23 rfl)
theorem dL_law_1368 : decode cL_law 1368 = .ok (.iadd, 1) := dqo_96 (kb_21 24 rfl)
theorem dL_law_1369 : decode cL_law 1369 = .ok (.iaload, 1) := dqo_46 (kb_21 25 rfl)
theorem dL_law_1370 : decode cL_law 1370 = .ok (.aload_n 0, 1) := dqo_42 (kb_21 26 rfl)
theorem dL_law_1371 : decode cL_law 1371 = .ok (.iload 4, 2) := dqo_21 4 (kb_21 27 rfl) (kb_21 28 rfl)
theorem dL_law_1373 : decode cL_law 1373 = .ok (.iconst 2, 1) := dqo_5 (kb_21 29 rfl)
theorem dL_law_1374 : decode cL_law 1374 = .ok (.iadd, 1) := dqo_96 (kb_21 30 rfl)
theorem dL_law_1375 : decode cL_law 1375 = .ok (.iaload, 1) := dqo_46 (kb_21 31 rfl)
theorem dL_law_1376 : decode cL_law 1376 = .ok (.invokevirtual 235, 3) := dqo_182 0 235 (kb_21 32 rfl) (kb_21 33 rfl) (kb_21 34 rfl)
theorem dL_law_1379 : decode cL_law 1379 = .ok (.istore 6, 2) := dqo_54 6 (kb_21 35 rfl) (kb_21 36 rfl)
theorem dL_law_1381 : decode cL_law 1381 = .ok (.aload_n 2, 1) := dqo_44 (kb_21 37 rfl)
theorem dL_law_1382 : decode cL_law 1382 = .ok (.invokevirtual 181, 3) := dqo_182 0 181 (kb_21 38 rfl) (kb_21 39 rfl) (kb_21 40 rfl)
theorem dL_law_1385 : decode cL_law 1385 = .ok (.iload 5, 2) := dqo_21 5 (kb_21 41 rfl) (kb_21 42 rfl)
theorem dL_law_1387 : decode cL_law 1387 = .ok (.if_icmp .eq 5, 3) := dqo_159 0 5 (by decide) (kb_21 43 rfl) (kb_21 44 rfl) (kb_21 45 rfl)
theorem dL_law_1392 : decode cL_law 1392 = .ok (.iload 5, 2) := dqo_21 5 (kb_21 48 rfl) (kb_21 49 rfl)
theorem dL_law_1394 : decode cL_law 1394 = .ok (.ifCond .ne 16, 3) := dqo_154 0 16 (by decide) (kb_21 50 rfl) (kb_21 51 rfl) (kb_21 52 rfl)
theorem dL_law_1397 : decode cL_law 1397 = .ok (.aload_n 3, 1) := dqo_45 (kb_21 53 rfl)
theorem dL_law_1398 : decode cL_law 1398 = .ok (.getfield 13, 3) := dqo_180 0 13 (kb_21 54 rfl) (kb_21 55 rfl) (kb_21 56 rfl)
theorem dL_law_1401 : decode cL_law 1401 = .ok (.iload 6, 2) := dqo_21 6 (kb_21 57 rfl) (kb_21 58 rfl)
theorem dL_law_1403 : decode cL_law 1403 = .ok (.i2l, 1) := dqo_133 (kb_21 59 rfl)
theorem dL_law_1404 : decode cL_law 1404 = .ok (.lcmp, 1) := dqo_148 (kb_21 60 rfl)
theorem dL_law_1405 : decode cL_law 1405 = .ok (.ifCond .eq 5, 3) := dqo_153 0 5 (by decide) (kb_21 61 rfl) (kb_21 62 rfl) (kb_21 63 rfl)
theorem dL_law_1410 : decode cL_law 1410 = .ok (.goto 2046, 3) := dqo_167 7 254 (by decide) (kb_22 2 rfl) (kb_22 3 rfl) (kb_22 4 rfl)
theorem dL_law_1413 : decode cL_law 1413 = .ok (.aload_n 1, 1) := dqo_43 (kb_22 5 rfl)
theorem dL_law_1414 : decode cL_law 1414 = .ok (.aload_n 0, 1) := dqo_42 (kb_22 6 rfl)
theorem dL_law_1415 : decode cL_law 1415 = .ok (.iload 4, 2) := dqo_21 4 (kb_22 7 rfl) (kb_22 8 rfl)
theorem dL_law_1417 : decode cL_law 1417 = .ok (.iconst 1, 1) := dqo_4 (kb_22 9 rfl)
theorem dL_law_1418 : decode cL_law 1418 = .ok (.iadd, 1) := dqo_96 (kb_22 10 rfl)
theorem dL_law_1419 : decode cL_law 1419 = .ok (.iaload, 1) := dqo_46 (kb_22 11 rfl)
theorem dL_law_1420 : decode cL_law 1420 = .ok (.aload_n 0, 1) := dqo_42 (kb_22 12 rfl)
theorem dL_law_1421 : decode cL_law 1421 = .ok (.iload 4, 2) := dqo_21 4 (kb_22 13 rfl) (kb_22 14 rfl)
theorem dL_law_1423 : decode cL_law 1423 = .ok (.iconst 2, 1) := dqo_5 (kb_22 15 rfl)
theorem dL_law_1424 : decode cL_law 1424 = .ok (.iadd, 1) := dqo_96 (kb_22 16 rfl)
theorem dL_law_1425 : decode cL_law 1425 = .ok (.iaload, 1) := dqo_46 (kb_22 17 rfl)
theorem dL_law_1426 : decode cL_law 1426 = .ok (.aload_n 3, 1) := dqo_45 (kb_22 18 rfl)
theorem dL_law_1427 : decode cL_law 1427 = .ok (.invokestatic 236, 3) := dqo_184 0 236 (kb_22 19 rfl) (kb_22 20 rfl) (kb_22 21 rfl)
theorem dL_law_1430 : decode cL_law 1430 = .ok (.istore 5, 2) := dqo_54 5 (kb_22 22 rfl) (kb_22 23 rfl)
theorem dL_law_1432 : decode cL_law 1432 = .ok (.aload_n 2, 1) := dqo_44 (kb_22 24 rfl)
theorem dL_law_1433 : decode cL_law 1433 = .ok (.aload_n 0, 1) := dqo_42 (kb_22 25 rfl)
theorem dL_law_1434 : decode cL_law 1434 = .ok (.iload 4, 2) := dqo_21 4 (kb_22 26 rfl) (kb_22 27 rfl)
theorem dL_law_1436 : decode cL_law 1436 = .ok (.iconst 1, 1) := dqo_4 (kb_22 28 rfl)
theorem dL_law_1437 : decode cL_law 1437 = .ok (.iadd, 1) := dqo_96 (kb_22 29 rfl)
theorem dL_law_1438 : decode cL_law 1438 = .ok (.iaload, 1) := dqo_46 (kb_22 30 rfl)
theorem dL_law_1439 : decode cL_law 1439 = .ok (.aload_n 0, 1) := dqo_42 (kb_22 31 rfl)
theorem dL_law_1440 : decode cL_law 1440 = .ok (.iload 4, 2) := dqo_21 4 (kb_22 32 rfl) (kb_22 33 rfl)
theorem dL_law_1442 : decode cL_law 1442 = .ok (.iconst 2, 1) := dqo_5 (kb_22 34 rfl)
theorem dL_law_1443 : decode cL_law 1443 = .ok (.iadd, 1) := dqo_96 (kb_22 35 rfl)
theorem dL_law_1444 : decode cL_law 1444 = .ok (.iaload, 1) := dqo_46 (kb_22 36 rfl)
theorem dL_law_1445 : decode cL_law 1445 = .ok (.invokevirtual 238, 3) := dqo_182 0 238 (kb_22 37 rfl) (kb_22 38 rfl) (kb_22 39 rfl)
theorem dL_law_1448 : decode cL_law 1448 = .ok (.istore 6, 2) := dqo_54 6 (kb_22 40 rfl) (kb_22 41 rfl)
theorem dL_law_1450 : decode cL_law 1450 = .ok (.aload_n 2, 1) := dqo_44 (kb_22 42 rfl)
theorem dL_law_1451 : decode cL_law 1451 = .ok (.invokevirtual 181, 3) := dqo_182 0 181 (kb_22 43 rfl) (kb_22 44 rfl) (kb_22 45 rfl)
theorem dL_law_1454 : decode cL_law 1454 = .ok (.iload 5, 2) := dqo_21 5 (kb_22 46 rfl) (kb_22 47 rfl)
theorem dL_law_1456 : decode cL_law 1456 = .ok (.if_icmp .eq 5, 3) := dqo_159 0 5 (by decide) (kb_22 48 rfl) (kb_22 49 rfl) (kb_22 50 rfl)
theorem dL_law_1461 : decode cL_law 1461 = .ok (.iload 5, 2) := dqo_21 5 (kb_22 53 rfl) (kb_22 54 rfl)
theorem dL_law_1463 : decode cL_law 1463 = .ok (.ifCond .ne 16, 3) := dqo_154 0 16 (by decide) (kb_22 55 rfl) (kb_22 56 rfl) (kb_22 57 rfl)
theorem dL_law_1466 : decode cL_law 1466 = .ok (.aload_n 3, 1) := dqo_45 (kb_22 58 rfl)
theorem dL_law_1467 : decode cL_law 1467 = .ok (.getfield 13, 3) := dqo_180 0 13 (kb_22 59 rfl) (kb_22 60 rfl) (kb_22 61 rfl)
theorem dL_law_1470 : decode cL_law 1470 = .ok (.iload 6, 2) := dqo_21 6 (kb_22 62 rfl) (kb_22 63 rfl)
theorem dL_law_1472 : decode cL_law 1472 = .ok (.i2l, 1) := dqo_133 (kb_23 0 rfl)
theorem dL_law_1473 : decode cL_law 1473 = .ok (.lcmp, 1) := dqo_148 (kb_23 1 rfl)
theorem dL_law_1474 : decode cL_law 1474 = .ok (.ifCond .eq 5, 3) := dqo_153 0 5 (by decide) (kb_23 2 rfl) (kb_23 3 rfl) (kb_23 4 rfl)
theorem dL_law_1479 : decode cL_law 1479 = .ok (.goto 1977, 3) := dqo_167 7 185 (by decide) (kb_23 7 rfl) (kb_23 8 rfl) (kb_23 9 rfl)
theorem dL_law_1482 : decode cL_law 1482 = .ok (.aload_n 1, 1) := dqo_43 (kb_23 10 rfl)
theorem dL_law_1483 : decode cL_law 1483 = .ok (.aload_n 0, 1) := dqo_42 (kb_23 11 rfl)
theorem dL_law_1484 : decode cL_law 1484 = .ok (.iload 4, 2) := dqo_21 4 (kb_23 12 rfl) (kb_23 13 rfl)
theorem dL_law_1486 : decode cL_law 1486 = .ok (.iconst 1, 1) := dqo_4 (kb_23 14 rfl)
theorem dL_law_1487 : decode cL_law 1487 = .ok (.iadd, 1) := dqo_96 (kb_23 15 rfl)
theorem dL_law_1488 : decode cL_law 1488 = .ok (.iaload, 1) := dqo_46 (kb_23 16 rfl)
theorem dL_law_1489 : decode cL_law 1489 = .ok (.aload_n 0, 1) := dqo_42 (kb_23 17 rfl)
theorem dL_law_1490 : decode cL_law 1490 = .ok (.iload 4, 2) := dqo_21 4 (kb_23 18 rfl) (kb_23 19 rfl)
theorem dL_law_1492 : decode cL_law 1492 = .ok (.iconst 2, 1) := dqo_5 (kb_23 20 rfl)
theorem dL_law_1493 : decode cL_law 1493 = .ok (.iadd, 1) := dqo_96 (kb_23 21 rfl)
theorem dL_law_1494 : decode cL_law 1494 = .ok (.iaload, 1) := dqo_46 (kb_23 22 rfl)
theorem dL_law_1495 : decode cL_law 1495 = .ok (.aload_n 0, 1) := dqo_42 (kb_23 23 rfl)
theorem dL_law_1496 : decode cL_law 1496 = .ok (.iload 4, 2) := dqo_21 4 (kb_23 24 rfl) (kb_23 25 rfl)
theorem dL_law_1498 : decode cL_law 1498 = .ok (.iconst 3, 1) := dqo_6 (kb_23 26 rfl)
theorem dL_law_1499 : decode cL_law 1499 = .ok (.iadd, 1) := dqo_96 (kb_23 27 rfl)
theorem dL_law_1500 : decode cL_law 1500 = .ok (.iaload, 1) := dqo_46 (kb_23 28 rfl)
theorem dL_law_1501 : decode cL_law 1501 = .ok (.aload_n 3, 1) := dqo_45 (kb_23 29 rfl)
theorem dL_law_1502 : decode cL_law 1502 = .ok (.invokestatic 239, 3) := dqo_184 0 239 (kb_23 30 rfl) (kb_23 31 rfl) (kb_23 32 rfl)
theorem dL_law_1505 : decode cL_law 1505 = .ok (.istore 5, 2) := dqo_54 5 (kb_23 33 rfl) (kb_23 34 rfl)
theorem dL_law_1507 : decode cL_law 1507 = .ok (.aload_n 2, 1) := dqo_44 (kb_23 35 rfl)
theorem dL_law_1508 : decode cL_law 1508 = .ok (.aload_n 0, 1) := dqo_42 (kb_23 36 rfl)
theorem dL_law_1509 : decode cL_law 1509 = .ok (.iload 4, 2) := dqo_21 4 (kb_23 37 rfl) (kb_23 38 rfl)
theorem dL_law_1511 : decode cL_law 1511 = .ok (.iconst 1, 1) := dqo_4 (kb_23 39 rfl)
theorem dL_law_1512 : decode cL_law 1512 = .ok (.iadd, 1) := dqo_96 (kb_23 40 rfl)
theorem dL_law_1513 : decode cL_law 1513 = .ok (.iaload, 1) := dqo_46 (kb_23 41 rfl)
theorem dL_law_1514 : decode cL_law 1514 = .ok (.aload_n 0, 1) := dqo_42 (kb_23 42 rfl)
theorem dL_law_1515 : decode cL_law 1515 = .ok (.iload 4, 2) := dqo_21 4 (kb_23 43 rfl) (kb_23 44 rfl)
theorem dL_law_1517 : decode cL_law 1517 = .ok (.iconst 2, 1) := dqo_5 (kb_23 45 rfl)
theorem dL_law_1518 : decode cL_law 1518 = .ok (.iadd, 1) := dqo_96 (kb_23 46 rfl)
theorem dL_law_1519 : decode cL_law 1519 = .ok (.iaload, 1) := dqo_46 (kb_23 47 rfl)
theorem dL_law_1520 : decode cL_law 1520 = .ok (.aload_n 0, 1) := dqo_42 (kb_23 48 rfl)
theorem dL_law_1521 : decode cL_law 1521 = .ok (.iload 4, 2) := dqo_21 4 (kb_23 49 rfl) (kb_23 50 rfl)
theorem dL_law_1523 : decode cL_law 1523 = .ok (.iconst 3, 1) := dqo_6 (kb_23 51 rfl)
theorem dL_law_1524 : decode cL_law 1524 = .ok (.iadd, 1) := dqo_96 (kb_23 52 rfl)
theorem dL_law_1525 : decode cL_law 1525 = .ok (.iaload, 1) := dqo_46 (kb_23 53 rfl)
theorem dL_law_1526 : decode cL_law 1526 = .ok (.invokevirtual 241, 3) := dqo_182 0 241 (kb_23 54 rfl) (kb_23 55 rfl) (kb_23 56 rfl)
theorem dL_law_1529 : decode cL_law 1529 = .ok (.istore 6, 2) := dqo_54 6 (kb_23 57 rfl) (kb_23 58 rfl)
theorem dL_law_1531 : decode cL_law 1531 = .ok (.aload_n 2, 1) := dqo_44 (kb_23 59 rfl)
theorem dL_law_1532 : decode cL_law 1532 = .ok (.invokevirtual 181, 3) := dqo_182 0 181 (kb_23 60 rfl) (kb_23 61 rfl) (kb_23 62 rfl)
theorem dL_law_1535 : decode cL_law 1535 = .ok (.iload 5, 2) := dqo_21 5 (kb_23 63 rfl) (kb_24 0 rfl)
theorem dL_law_1537 : decode cL_law 1537 = .ok (.if_icmp .eq 5, 3) := dqo_159 0 5 (by decide) (kb_24 1 rfl) (kb_24 2 rfl) (kb_24 3 rfl)
theorem dL_law_1542 : decode cL_law 1542 = .ok (.iload 5, 2) := dqo_21 5 (kb_24 6 rfl) (kb_24 7 rfl)
theorem dL_law_1544 : decode cL_law 1544 = .ok (.ifCond .ne 16, 3) := dqo_154 0 16 (by decide) (kb_24 8 rfl) (kb_24 9 rfl) (kb_24 10 rfl)
theorem dL_law_1547 : decode cL_law 1547 = .ok (.aload_n 3, 1) := dqo_45 (kb_24 11 rfl)
theorem dL_law_1548 : decode cL_law 1548 = .ok (.getfield 13, 3) := dqo_180 0 13 (kb_24 12 rfl) (kb_24 13 rfl) (kb_24 14 rfl)
theorem dL_law_1551 : decode cL_law 1551 = .ok (.iload 6, 2) := dqo_21 6 (kb_24 15 rfl) (kb_24 16 rfl)
theorem dL_law_1553 : decode cL_law 1553 = .ok (.i2l, 1) := dqo_133 (kb_24 17 rfl)
theorem dL_law_1554 : decode cL_law 1554 = .ok (.lcmp, 1) := dqo_148 (kb_24 18 rfl)
theorem dL_law_1555 : decode cL_law 1555 = .ok (.ifCond .eq 5, 3) := dqo_153 0 5 (by decide) (kb_24 19 rfl) (kb_24 20 rfl) (kb_24 21 rfl)
theorem dL_law_1560 : decode cL_law 1560 = .ok (.goto 1896, 3) := dqo_167 7 104 (by decide) (kb_24 24 rfl) (kb_24 25 rfl) (kb_24 26 rfl)
theorem dL_law_1563 : decode cL_law 1563 = .ok (.aload_n 1, 1) := dqo_43 (kb_24 27 rfl)
theorem dL_law_1564 : decode cL_law 1564 = .ok (.aload_n 0, 1) := dqo_42 (kb_24 28 rfl)
theorem dL_law_1565 : decode cL_law 1565 = .ok (.iload 4, 2) := dqo_21 4 (kb_24 29 rfl) (kb_24 30 rfl)
theorem dL_law_1567 : decode cL_law 1567 = .ok (.iconst 1, 1) := dqo_4 (kb_24 31 rfl)
theorem dL_law_1568 : decode cL_law 1568 = .ok (.iadd, 1) := dqo_96 (kb_24 32 rfl)
theorem dL_law_1569 : decode cL_law 1569 = .ok (.iaload, 1) := dqo_46 (kb_24 33 rfl)
theorem dL_law_1570 : decode cL_law 1570 = .ok (.aload_n 0, 1) := dqo_42 (kb_24 34 rfl)
theorem dL_law_1571 : decode cL_law 1571 = .ok (.iload 4, 2) := dqo_21 4 (kb_24 35 rfl) (kb_24 36 rfl)
theorem dL_law_1573 : decode cL_law 1573 = .ok (.iconst 2, 1) := dqo_5 (kb_24 37 rfl)
theorem dL_law_1574 : decode cL_law 1574 = .ok (.iadd, 1) := dqo_96 (kb_24 38 rfl)
theorem dL_law_1575 : decode cL_law 1575 = .ok (.iaload, 1) := dqo_46 (kb_24 39 rfl)
theorem dL_law_1576 : decode cL_law 1576 = .ok (.aload_n 3, 1) := dqo_45 (kb_24 40 rfl)
theorem dL_law_1577 : decode cL_law 1577 = .ok (.invokestatic 242, 3) := dqo_184 0 242 (kb_24 41 rfl) (kb_24 42 rfl) (kb_24 43 rfl)
theorem dL_law_1580 : decode cL_law 1580 = .ok (.istore 5, 2) := dqo_54 5 (kb_24 44 rfl) (kb_24 45 rfl)
theorem dL_law_1582 : decode cL_law 1582 = .ok (.aload_n 2, 1) := dqo_44 (kb_24 46 rfl)
theorem dL_law_1583 : decode cL_law 1583 = .ok (.aload_n 0, 1) := dqo_42 (kb_24 47 rfl)
theorem dL_law_1584 : decode cL_law 1584 = .ok (.iload 4, 2) := dqo_21 4 (kb_24 48 rfl) (kb_24 49 rfl)
theorem dL_law_1586 : decode cL_law 1586 = .ok (.iconst 1, 1) := dqo_4 (kb_24 50 rfl)
theorem dL_law_1587 : decode cL_law 1587 = .ok (.iadd, 1) := dqo_96 (kb_24 51 rfl)
theorem dL_law_1588 : decode cL_law 1588 = .ok (.iaload, 1) := dqo_46 (kb_24 52 rfl)
theorem dL_law_1589 : decode cL_law 1589 = .ok (.aload_n 0, 1) := dqo_42 (kb_24 53 rfl)
theorem dL_law_1590 : decode cL_law 1590 = .ok (.iload 4, 2) := dqo_21 4 (kb_24 54 rfl) (kb_24 55 rfl)
theorem dL_law_1592 : decode cL_law 1592 = .ok (.iconst 2, 1) := dqo_5 (kb_24 56 rfl)
theorem dL_law_1593 : decode cL_law 1593 = .ok (.iadd, 1) := dqo_96 (kb_24 57 rfl)
theorem dL_law_1594 : decode cL_law 1594 = .ok (.iaload, 1) := dqo_46 (kb_24 58 rfl)
theorem dL_law_1595 : decode cL_law 1595 = .ok (.invokevirtual 244, 3) := dqo_182 0 244 (kb_24 59 rfl) (kb_24 60 rfl) (kb_24 61 rfl)
theorem dL_law_1598 : decode cL_law 1598 = .ok (.istore 6, 2) := dqo_54 6 (kb_24 62 rfl) (kb_24 63 rfl)
theorem dL_law_1600 : decode cL_law 1600 = .ok (.aload_n 2, 1) := dqo_44 (kb_25 0 rfl)
theorem dL_law_1601 : decode cL_law 1601 = .ok (.invokevirtual 181, 3) := dqo_182 0 181 (kb_25 1 rfl) (kb_25 2 rfl) (kb_25 3 rfl)
theorem dL_law_1604 : decode cL_law 1604 = .ok (.iload 5, 2) := dqo_21 5 (kb_25 4 rfl) (kb_25 5 rfl)
theorem dL_law_1606 : decode cL_law 1606 = .ok (.if_icmp .eq 5, 3) := dqo_159 0 5 (by decide) (kb_25 6 rfl) (kb_25 7 rfl) (kb_25 8 rfl)
theorem dL_law_1611 : decode cL_law 1611 = .ok (.iload 5, 2) := dqo_21 5 (kb_25 11 rfl) (kb_25 12 rfl)
theorem dL_law_1613 : decode cL_law 1613 = .ok (.ifCond .ne 16, 3) := dqo_154 0 16 (by decide) (kb_25 13 rfl) (kb_25 14 rfl) (kb_25 15 rfl)
theorem dL_law_1616 : decode cL_law 1616 = .ok (.aload_n 3, 1) := dqo_45 (kb_25 16 rfl)
theorem dL_law_1617 : decode cL_law 1617 = .ok (.getfield 13, 3) := dqo_180 0 13 (kb_25 17 rfl) (kb_25 18 rfl) (kb_25 19 rfl)
theorem dL_law_1620 : decode cL_law 1620 = .ok (.iload 6, 2) := dqo_21 6 (kb_25 20 rfl) (kb_25 21 rfl)
theorem dL_law_1622 : decode cL_law 1622 = .ok (.i2l, 1) := dqo_133 (kb_25 22 rfl)
theorem dL_law_1623 : decode cL_law 1623 = .ok (.lcmp, 1) := dqo_148 (kb_25 23 rfl)
theorem dL_law_1624 : decode cL_law 1624 = .ok (.ifCond .eq 5, 3) := dqo_153 0 5 (by decide) (kb_25 24 rfl) (kb_25 25 rfl) (kb_25 26 rfl)
theorem dL_law_1629 : decode cL_law 1629 = .ok (.goto 1827, 3) := dqo_167 7 35 (by decide) (kb_25 29 rfl) (kb_25 30 rfl) (kb_25 31 rfl)
theorem dL_law_1632 : decode cL_law 1632 = .ok (.aload_n 1, 1) := dqo_43 (kb_25 32 rfl)
theorem dL_law_1633 : decode cL_law 1633 = .ok (.aload_n 0, 1) := dqo_42 (kb_25 33 rfl)
theorem dL_law_1634 : decode cL_law 1634 = .ok (.iload 4, 2) := dqo_21 4 (kb_25 34 rfl) (kb_25 35 rfl)
theorem dL_law_1636 : decode cL_law 1636 = .ok (.iconst 1, 1) := dqo_4 (kb_25 36 rfl)
theorem dL_law_1637 : decode cL_law 1637 = .ok (.iadd, 1) := dqo_96 (kb_25 37 rfl)
theorem dL_law_1638 : decode cL_law 1638 = .ok (.iaload, 1) := dqo_46 (kb_25 38 rfl)
theorem dL_law_1639 : decode cL_law 1639 = .ok (.aload_n 0, 1) := dqo_42 (kb_25 39 rfl)
theorem dL_law_1640 : decode cL_law 1640 = .ok (.iload 4, 2) := dqo_21 4 (kb_25 40 rfl) (kb_25 41 rfl)
theorem dL_law_1642 : decode cL_law 1642 = .ok (.iconst 2, 1) := dqo_5 (kb_25 42 rfl)
theorem dL_law_1643 : decode cL_law 1643 = .ok (.iadd, 1) := dqo_96 (kb_25 43 rfl)
theorem dL_law_1644 : decode cL_law 1644 = .ok (.iaload, 1) := dqo_46 (kb_25 44 rfl)
theorem dL_law_1645 : decode cL_law 1645 = .ok (.aload_n 3, 1) := dqo_45 (kb_25 45 rfl)
theorem dL_law_1646 : decode cL_law 1646 = .ok (.invokestatic 245, 3) := dqo_184 0 245 (kb_25 46 rfl) (kb_25 47 rfl) (kb_25 48 rfl)
theorem dL_law_1649 : decode cL_law 1649 = .ok (.istore 5, 2) := dqo_54 5 (kb_25 49 rfl) (kb_25 50 rfl)
theorem dL_law_1651 : decode cL_law 1651 = .ok (.aload_n 2, 1) := dqo_44 (kb_25 51 rfl)
theorem dL_law_1652 : decode cL_law 1652 = .ok (.aload_n 0, 1) := dqo_42 (kb_25 52 rfl)
theorem dL_law_1653 : decode cL_law 1653 = .ok (.iload 4, 2) := dqo_21 4 (kb_25 53 rfl) (kb_25 54 rfl)
theorem dL_law_1655 : decode cL_law 1655 = .ok (.iconst 1, 1) := dqo_4 (kb_25 55 rfl)
theorem dL_law_1656 : decode cL_law 1656 = .ok (.iadd, 1) := dqo_96 (kb_25 56 rfl)
theorem dL_law_1657 : decode cL_law 1657 = .ok (.iaload, 1) := dqo_46 (kb_25 57 rfl)
theorem dL_law_1658 : decode cL_law 1658 = .ok (.aload_n 0, 1) := dqo_42 (kb_25 58 rfl)
theorem dL_law_1659 : decode cL_law 1659 = .ok (.iload 4, 2) := dqo_21 4 (kb_25 59 rfl) (kb_25 60 rfl)
theorem dL_law_1661 : decode cL_law 1661 = .ok (.iconst 2, 1) := dqo_5 (kb_25 61 rfl)
theorem dL_law_1662 : decode cL_law 1662 = .ok (.iadd, 1) := dqo_96 (kb_25 62 rfl)
theorem dL_law_1663 : decode cL_law 1663 = .ok (.iaload, 1) := dqo_46 (kb_25 63 rfl)
theorem dL_law_1664 : decode cL_law 1664 = .ok (.invokevirtual 247, 3) := dqo_182 0 247 (kb_26 0 rfl) (kb_26 1 rfl) (kb_26 2 rfl)
theorem dL_law_1667 : decode cL_law 1667 = .ok (.istore 6, 2) := dqo_54 6 (kb_26 3 rfl) (kb_26 4 rfl)
theorem dL_law_1669 : decode cL_law 1669 = .ok (.aload_n 2, 1) := dqo_44 (kb_26 5 rfl)
theorem dL_law_1670 : decode cL_law 1670 = .ok (.invokevirtual 181, 3) := dqo_182 0 181 (kb_26 6 rfl) (kb_26 7 rfl) (kb_26 8 rfl)
theorem dL_law_1673 : decode cL_law 1673 = .ok (.iload 5, 2) := dqo_21 5 (kb_26 9 rfl) (kb_26 10 rfl)
theorem dL_law_1675 : decode cL_law 1675 = .ok (.if_icmp .eq 5, 3) := dqo_159 0 5 (by decide) (kb_26 11 rfl) (kb_26 12 rfl) (kb_26 13 rfl)
theorem dL_law_1680 : decode cL_law 1680 = .ok (.iload 5, 2) := dqo_21 5 (kb_26 16 rfl) (kb_26 17 rfl)
theorem dL_law_1682 : decode cL_law 1682 = .ok (.ifCond .ne 16, 3) := dqo_154 0 16 (by decide) (kb_26 18 rfl) (kb_26 19 rfl) (kb_26 20 rfl)
theorem dL_law_1685 : decode cL_law 1685 = .ok (.aload_n 3, 1) := dqo_45 (kb_26 21 rfl)
theorem dL_law_1686 : decode cL_law 1686 = .ok (.getfield 13, 3) := dqo_180 0 13 (kb_26 22 rfl) (kb_26 23 rfl) (kb_26 24 rfl)
theorem dL_law_1689 : decode cL_law 1689 = .ok (.iload 6, 2) := dqo_21 6 (kb_26 25 rfl) (kb_26 26 rfl)
theorem dL_law_1691 : decode cL_law 1691 = .ok (.i2l, 1) := dqo_133 (kb_26 27 rfl)
theorem dL_law_1692 : decode cL_law 1692 = .ok (.lcmp, 1) := dqo_148 (kb_26 28 rfl)
theorem dL_law_1693 : decode cL_law 1693 = .ok (.ifCond .eq 5, 3) := dqo_153 0 5 (by decide) (kb_26 29 rfl) (kb_26 30 rfl) (kb_26 31 rfl)
theorem dL_law_1698 : decode cL_law 1698 = .ok (.goto 1758, 3) := dqo_167 6 222 (by decide) (kb_26 34 rfl) (kb_26 35 rfl) (kb_26 36 rfl)
theorem dL_law_1701 : decode cL_law 1701 = .ok (.aload_n 1, 1) := dqo_43 (kb_26 37 rfl)
theorem dL_law_1702 : decode cL_law 1702 = .ok (.aload_n 0, 1) := dqo_42 (kb_26 38 rfl)
theorem dL_law_1703 : decode cL_law 1703 = .ok (.iload 4, 2) := dqo_21 4 (kb_26 39 rfl) (kb_26 40 rfl)
theorem dL_law_1705 : decode cL_law 1705 = .ok (.iconst 1, 1) := dqo_4 (kb_26 41 rfl)
theorem dL_law_1706 : decode cL_law 1706 = .ok (.iadd, 1) := dqo_96 (kb_26 42 rfl)
theorem dL_law_1707 : decode cL_law 1707 = .ok (.iaload, 1) := dqo_46 (kb_26 43 rfl)
theorem dL_law_1708 : decode cL_law 1708 = .ok (.aload_n 0, 1) := dqo_42 (kb_26 44 rfl)
theorem dL_law_1709 : decode cL_law 1709 = .ok (.iload 4, 2) := dqo_21 4 (kb_26 45 rfl) (kb_26 46 rfl)
theorem dL_law_1711 : decode cL_law 1711 = .ok (.iconst 2, 1) := dqo_5 (kb_26 47 rfl)
theorem dL_law_1712 : decode cL_law 1712 = .ok (.iadd, 1) := dqo_96 (kb_26 48 rfl)
theorem dL_law_1713 : decode cL_law 1713 = .ok (.iaload, 1) := dqo_46 (kb_26 49 rfl)
theorem dL_law_1714 : decode cL_law 1714 = .ok (.aload_n 3, 1) := dqo_45 (kb_26 50 rfl)
theorem dL_law_1715 : decode cL_law 1715 = .ok (.invokestatic 248, 3) := dqo_184 0 248 (kb_26 51 rfl) (kb_26 52 rfl) (kb_26 53 rfl)
theorem dL_law_1718 : decode cL_law 1718 = .ok (.istore 5, 2) := dqo_54 5 (kb_26 54 rfl) (kb_26 55 rfl)
theorem dL_law_1720 : decode cL_law 1720 = .ok (.aload_n 2, 1) := dqo_44 (kb_26 56 rfl)
theorem dL_law_1721 : decode cL_law 1721 = .ok (.aload_n 0, 1) := dqo_42 (kb_26 57 rfl)
theorem dL_law_1722 : decode cL_law 1722 = .ok (.iload 4, 2) := dqo_21 4 (kb_26 58 rfl) (kb_26 59 rfl)
theorem dL_law_1724 : decode cL_law 1724 = .ok (.iconst 1, 1) := dqo_4 (kb_26 60 rfl)
theorem dL_law_1725 : decode cL_law 1725 = .ok (.iadd, 1) := dqo_96 (kb_26 61 rfl)
theorem dL_law_1726 : decode cL_law 1726 = .ok (.iaload, 1) := dqo_46 (kb_26 62 rfl)
theorem dL_law_1727 : decode cL_law 1727 = .ok (.aload_n 0, 1) := dqo_42 (kb_26 63 rfl)
theorem dL_law_1728 : decode cL_law 1728 = .ok (.iload 4, 2) := dqo_21 4 (kb_27 0 rfl) (kb_27 1 rfl)
theorem dL_law_1730 : decode cL_law 1730 = .ok (.iconst 2, 1) := dqo_5 (kb_27 2 rfl)
theorem dL_law_1731 : decode cL_law 1731 = .ok (.iadd, 1) := dqo_96 (kb_27 3 rfl)
theorem dL_law_1732 : decode cL_law 1732 = .ok (.iaload, 1) := dqo_46 (kb_27 4 rfl)
theorem dL_law_1733 : decode cL_law 1733 = .ok (.invokevirtual 250, 3) := dqo_182 0 250 (kb_27 5 rfl) (kb_27 6 rfl) (kb_27 7 rfl)
theorem dL_law_1736 : decode cL_law 1736 = .ok (.istore 6, 2) := dqo_54 6 (kb_27 8 rfl) (kb_27 9 rfl)
theorem dL_law_1738 : decode cL_law 1738 = .ok (.aload_n 2, 1) := dqo_44 (kb_27 10 rfl)
theorem dL_law_1739 : decode cL_law 1739 = .ok (.invokevirtual 181, 3) := dqo_182 0 181 (kb_27 11 rfl) (kb_27 12 rfl) (kb_27 13 rfl)
theorem dL_law_1742 : decode cL_law 1742 = .ok (.iload 5, 2) := dqo_21 5 (kb_27 14 rfl) (kb_27 15 rfl)
theorem dL_law_1744 : decode cL_law 1744 = .ok (.if_icmp .eq 5, 3) := dqo_159 0 5 (by decide) (kb_27 16 rfl) (kb_27 17 rfl) (kb_27 18 rfl)
theorem dL_law_1749 : decode cL_law 1749 = .ok (.iload 5, 2) := dqo_21 5 (kb_27 21 rfl) (kb_27 22 rfl)
theorem dL_law_1751 : decode cL_law 1751 = .ok (.ifCond .ne 16, 3) := dqo_154 0 16 (by decide) (kb_27 23 rfl) (kb_27 24 rfl) (kb_27 25 rfl)
theorem dL_law_1754 : decode cL_law 1754 = .ok (.aload_n 3, 1) := dqo_45 (kb_27 26 rfl)
theorem dL_law_1755 : decode cL_law 1755 = .ok (.getfield 13, 3) := dqo_180 0 13 (kb_27 27 rfl) (kb_27 28 rfl) (kb_27 29 rfl)
theorem dL_law_1758 : decode cL_law 1758 = .ok (.iload 6, 2) := dqo_21 6 (kb_27 30 rfl) (kb_27 31 rfl)
theorem dL_law_1760 : decode cL_law 1760 = .ok (.i2l, 1) := dqo_133 (kb_27 32 rfl)
theorem dL_law_1761 : decode cL_law 1761 = .ok (.lcmp, 1) := dqo_148 (kb_27 33 rfl)
theorem dL_law_1762 : decode cL_law 1762 = .ok (.ifCond .eq 5, 3) := dqo_153 0 5 (by decide) (kb_27 34 rfl) (kb_27 35 rfl) (kb_27 36 rfl)
theorem dL_law_1767 : decode cL_law 1767 = .ok (.goto 1689, 3) := dqo_167 6 153 (by decide) (kb_27 39 rfl) (kb_27 40 rfl) (kb_27 41 rfl)
theorem dL_law_1770 : decode cL_law 1770 = .ok (.aload_n 1, 1) := dqo_43 (kb_27 42 rfl)
theorem dL_law_1771 : decode cL_law 1771 = .ok (.aload_n 0, 1) := dqo_42 (kb_27 43 rfl)
theorem dL_law_1772 : decode cL_law 1772 = .ok (.iload 4, 2) := dqo_21 4 (kb_27 44 rfl) (kb_27 45 rfl)
theorem dL_law_1774 : decode cL_law 1774 = .ok (.iconst 1, 1) := dqo_4 (kb_27 46 rfl)
theorem dL_law_1775 : decode cL_law 1775 = .ok (.iadd, 1) := dqo_96 (kb_27 47 rfl)
theorem dL_law_1776 : decode cL_law 1776 = .ok (.iaload, 1) := dqo_46 (kb_27 48 rfl)
theorem dL_law_1777 : decode cL_law 1777 = .ok (.aload_n 0, 1) := dqo_42 (kb_27 49 rfl)
theorem dL_law_1778 : decode cL_law 1778 = .ok (.iload 4, 2) := dqo_21 4 (kb_27 50 rfl) (kb_27 51 rfl)
theorem dL_law_1780 : decode cL_law 1780 = .ok (.iconst 2, 1) := dqo_5 (kb_27 52 rfl)
theorem dL_law_1781 : decode cL_law 1781 = .ok (.iadd, 1) := dqo_96 (kb_27 53 rfl)
theorem dL_law_1782 : decode cL_law 1782 = .ok (.iaload, 1) := dqo_46 (kb_27 54 rfl)
theorem dL_law_1783 : decode cL_law 1783 = .ok (.aload_n 3, 1) := dqo_45 (kb_27 55 rfl)
theorem dL_law_1784 : decode cL_law 1784 = .ok (.invokestatic 251, 3) := dqo_184 0 251 (kb_27 56 rfl) (kb_27 57 rfl) (kb_27 58 rfl)
theorem dL_law_1787 : decode cL_law 1787 = .ok (.istore 5, 2) := dqo_54 5 (kb_27 59 rfl) (kb_27 60 rfl)
theorem dL_law_1789 : decode cL_law 1789 = .ok (.aload_n 2, 1) := dqo_44 (kb_27 61 rfl)
theorem dL_law_1790 : decode cL_law 1790 = .ok (.aload_n 0, 1) := dqo_42 (kb_27 62 rfl)
theorem dL_law_1791 : decode cL_law 1791 = .ok (.iload 4, 2) := dqo_21 4 (kb_27 63 rfl) (kb_28 0 rfl)
theorem dL_law_1793 : decode cL_law 1793 = .ok (.iconst 1, 1) := dqo_4 (kb_28 1 rfl)
theorem dL_law_1794 : decode cL_law 1794 = .ok (.iadd, 1) := dqo_96 (kb_28 2 rfl)
theorem dL_law_1795 : decode cL_law 1795 = .ok (.iaload, 1) := dqo_46 (kb_28 3 rfl)
theorem dL_law_1796 : decode cL_law 1796 = .ok (.aload_n 0, 1) := dqo_42 (kb_28 4 rfl)
theorem dL_law_1797 : decode cL_law 1797 = .ok (.iload 4, 2) := dqo_21 4 (kb_28 5 rfl) (kb_28 6 rfl)
theorem dL_law_1799 : decode cL_law 1799 = .ok (.iconst 2, 1) := dqo_5 (kb_28 7 rfl)
theorem dL_law_1800 : decode cL_law 1800 = .ok (.iadd, 1) := dqo_96 (kb_28 8 rfl)
theorem dL_law_1801 : decode cL_law 1801 = .ok (.iaload, 1) := dqo_46 (kb_28 9 rfl)
theorem dL_law_1802 : decode cL_law 1802 = .ok (.invokevirtual 253, 3) := dqo_182 0 253 (kb_28 10 rfl) (kb_28 11 rfl) (kb_28 12 rfl)
theorem dL_law_1805 : decode cL_law 1805 = .ok (.istore 6, 2) := dqo_54 6 (kb_28 13 rfl) (kb_28 14 rfl)
theorem dL_law_1807 : decode cL_law 1807 = .ok (.aload_n 2, 1) := dqo_44 (kb_28 15 rfl)
theorem dL_law_1808 : decode cL_law 1808 = .ok (.invokevirtual 181, 3) := dqo_182 0 181 (kb_28 16 rfl) (kb_28 17 rfl) (kb_28 18 rfl)
theorem dL_law_1811 : decode cL_law 1811 = .ok (.iload 5, 2) := dqo_21 5 (kb_28 19 rfl) (kb_28 20 rfl)
theorem dL_law_1813 : decode cL_law 1813 = .ok (.if_icmp .eq 5, 3) := dqo_159 0 5 (by decide) (kb_28 21 rfl) (kb_28 22 rfl) (kb_28 23 rfl)
theorem dL_law_1818 : decode cL_law 1818 = .ok (.iload 5, 2) := dqo_21 5 (kb_28 26 rfl) (kb_28 27 rfl)
theorem dL_law_1820 : decode cL_law 1820 = .ok (.ifCond .ne 16, 3) := dqo_154 0 16 (by decide) (kb_28 28 rfl) (kb_28 29 rfl) (kb_28 30 rfl)
theorem dL_law_1823 : decode cL_law 1823 = .ok (.aload_n 3, 1) := dqo_45 (kb_28 31 rfl)
theorem dL_law_1824 : decode cL_law 1824 = .ok (.getfield 13, 3) := dqo_180 0 13 (kb_28 32 rfl) (kb_28 33 rfl) (kb_28 34 rfl)
theorem dL_law_1827 : decode cL_law 1827 = .ok (.iload 6, 2) := dqo_21 6 (kb_28 35 rfl) (kb_28 36 rfl)
theorem dL_law_1829 : decode cL_law 1829 = .ok (.i2l, 1) := dqo_133 (kb_28 37 rfl)
theorem dL_law_1830 : decode cL_law 1830 = .ok (.lcmp, 1) := dqo_148 (kb_28 38 rfl)
theorem dL_law_1831 : decode cL_law 1831 = .ok (.ifCond .eq 5, 3) := dqo_153 0 5 (by decide) (kb_28 39 rfl) (kb_28 40 rfl) (kb_28 41 rfl)
theorem dL_law_1836 : decode cL_law 1836 = .ok (.goto 1620, 3) := dqo_167 6 84 (by decide) (kb_28 44 rfl) (kb_28 45 rfl) (kb_28 46 rfl)
theorem dL_law_1839 : decode cL_law 1839 = .ok (.aload_n 1, 1) := dqo_43 (kb_28 47 rfl)
theorem dL_law_1840 : decode cL_law 1840 = .ok (.aload_n 0, 1) := dqo_42 (kb_28 48 rfl)
theorem dL_law_1841 : decode cL_law 1841 = .ok (.iload 4, 2) := dqo_21 4 (kb_28 49 rfl) (kb_28 50 rfl)
theorem dL_law_1843 : decode cL_law 1843 = .ok (.iconst 1, 1) := dqo_4 (kb_28 51 rfl)
theorem dL_law_1844 : decode cL_law 1844 = .ok (.iadd, 1) := dqo_96 (kb_28 52 rfl)
theorem dL_law_1845 : decode cL_law 1845 = .ok (.iaload, 1) := dqo_46 (kb_28 53 rfl)
theorem dL_law_1846 : decode cL_law 1846 = .ok (.aload_n 0, 1) := dqo_42 (kb_28 54 rfl)
theorem dL_law_1847 : decode cL_law 1847 = .ok (.iload 4, 2) := dqo_21 4 (kb_28 55 rfl) (kb_28 56 rfl)
theorem dL_law_1849 : decode cL_law 1849 = .ok (.iconst 2, 1) := dqo_5 (kb_28 57 rfl)
theorem dL_law_1850 : decode cL_law 1850 = .ok (.iadd, 1) := dqo_96 (kb_28 58 rfl)
theorem dL_law_1851 : decode cL_law 1851 = .ok (.iaload, 1) := dqo_46 (kb_28 59 rfl)
theorem dL_law_1852 : decode cL_law 1852 = .ok (.aload_n 0, 1) := dqo_42 (kb_28 60 rfl)
theorem dL_law_1853 : decode cL_law 1853 = .ok (.iload 4, 2) := dqo_21 4 (kb_28 61 rfl) (kb_28 62 rfl)
theorem dL_law_1855 : decode cL_law 1855 = .ok (.iconst 3, 1) := dqo_6 (kb_28 63 rfl)
theorem dL_law_1856 : decode cL_law 1856 = .ok (.iadd, 1) := dqo_96 (kb_29 0 rfl)
theorem dL_law_1857 : decode cL_law 1857 = .ok (.iaload, 1) := dqo_46 (kb_29 1 rfl)
theorem dL_law_1858 : decode cL_law 1858 = .ok (.aload_n 3, 1) := dqo_45 (kb_29 2 rfl)
theorem dL_law_1859 : decode cL_law 1859 = .ok (.invokestatic 254, 3) := dqo_184 0 254 (kb_29 3 rfl) (kb_29 4 rfl) (kb_29 5 rfl)
theorem dL_law_1862 : decode cL_law 1862 = .ok (.istore 5, 2) := dqo_54 5 (kb_29 6 rfl) (kb_29 7 rfl)
theorem dL_law_1864 : decode cL_law 1864 = .ok (.aload_n 2, 1) := dqo_44 (kb_29 8 rfl)
theorem dL_law_1865 : decode cL_law 1865 = .ok (.aload_n 0, 1) := dqo_42 (kb_29 9 rfl)
theorem dL_law_1866 : decode cL_law 1866 = .ok (.iload 4, 2) := dqo_21 4 (kb_29 10 rfl) (kb_29 11 rfl)
theorem dL_law_1868 : decode cL_law 1868 = .ok (.iconst 1, 1) := dqo_4 (kb_29 12 rfl)
theorem dL_law_1869 : decode cL_law 1869 = .ok (.iadd, 1) := dqo_96 (kb_29 13 rfl)
theorem dL_law_1870 : decode cL_law 1870 = .ok (.iaload, 1) := dqo_46 (kb_29 14 rfl)
theorem dL_law_1871 : decode cL_law 1871 = .ok (.aload_n 0, 1) := dqo_42 (kb_29 15 rfl)
theorem dL_law_1872 : decode cL_law 1872 = .ok (.iload 4, 2) := dqo_21 4 (kb_29 16 rfl) (kb_29 17 rfl)
theorem dL_law_1874 : decode cL_law 1874 = .ok (.iconst 2, 1) := dqo_5 (kb_29 18 rfl)
theorem dL_law_1875 : decode cL_law 1875 = .ok (.iadd, 1) := dqo_96 (kb_29 19 rfl)
theorem dL_law_1876 : decode cL_law 1876 = .ok (.iaload, 1) := dqo_46 (kb_29 20 rfl)
theorem dL_law_1877 : decode cL_law 1877 = .ok (.aload_n 0, 1) := dqo_42 (kb_29 21 rfl)
theorem dL_law_1878 : decode cL_law 1878 = .ok (.iload 4, 2) := dqo_21 4 (kb_29 22 rfl) (kb_29 23 rfl)
theorem dL_law_1880 : decode cL_law 1880 = .ok (.iconst 3, 1) := dqo_6 (kb_29 24 rfl)
theorem dL_law_1881 : decode cL_law 1881 = .ok (.iadd, 1) := dqo_96 (kb_29 25 rfl)
theorem dL_law_1882 : decode cL_law 1882 = .ok (.iaload, 1) := dqo_46 (kb_29 26 rfl)
theorem dL_law_1883 : decode cL_law 1883 = .ok (.invokevirtual 256, 3) := dqo_182 1 0 (kb_29 27 rfl) (kb_29 28 rfl) (kb_29 29 rfl)
theorem dL_law_1886 : decode cL_law 1886 = .ok (.istore 6, 2) := dqo_54 6 (kb_29 30 rfl) (kb_29 31 rfl)
theorem dL_law_1888 : decode cL_law 1888 = .ok (.aload_n 2, 1) := dqo_44 (kb_29 32 rfl)
theorem dL_law_1889 : decode cL_law 1889 = .ok (.invokevirtual 181, 3) := dqo_182 0 181 (kb_29 33 rfl) (kb_29 34 rfl) (kb_29 35 rfl)
theorem dL_law_1892 : decode cL_law 1892 = .ok (.iload 5, 2) := dqo_21 5 (kb_29 36 rfl) (kb_29 37 rfl)
theorem dL_law_1894 : decode cL_law 1894 = .ok (.if_icmp .eq 5, 3) := dqo_159 0 5 (by decide) (kb_29 38 rfl) (kb_29 39 rfl) (kb_29 40 rfl)
theorem dL_law_1899 : decode cL_law 1899 = .ok (.iload 5, 2) := dqo_21 5 (kb_29 43 rfl) (kb_29 44 rfl)
theorem dL_law_1901 : decode cL_law 1901 = .ok (.ifCond .ne 16, 3) := dqo_154 0 16 (by decide) (kb_29 45 rfl) (kb_29 46 rfl) (kb_29 47 rfl)
theorem dL_law_1904 : decode cL_law 1904 = .ok (.aload_n 3, 1) := dqo_45 (kb_29 48 rfl)
theorem dL_law_1905 : decode cL_law 1905 = .ok (.getfield 13, 3) := dqo_180 0 13 (kb_29 49 rfl) (kb_29 50 rfl) (kb_29 51 rfl)
theorem dL_law_1908 : decode cL_law 1908 = .ok (.iload 6, 2) := dqo_21 6 (kb_29 52 rfl) (kb_29 53 rfl)
theorem dL_law_1910 : decode cL_law 1910 = .ok (.i2l, 1) := dqo_133 (kb_29 54 rfl)
theorem dL_law_1911 : decode cL_law 1911 = .ok (.lcmp, 1) := dqo_148 (kb_29 55 rfl)
theorem dL_law_1912 : decode cL_law 1912 = .ok (.ifCond .eq 5, 3) := dqo_153 0 5 (by decide) (kb_29 56 rfl) (kb_29 57 rfl) (kb_29 58 rfl)
theorem dL_law_1917 : decode cL_law 1917 = .ok (.goto 1539, 3) := dqo_167 6 3 (by decide) (kb_29 61 rfl) (kb_29 62 rfl) (kb_29 63 rfl)
theorem S_sortBy {p : Program} {l : Launch} {e : Env} {s : State} {m : MethodId} {args : Array Value} {below : List Frame} {meth : Method} {c : Code} {D : va_G} {cy : Nat → ClassId} {A : Nat → Prop} {Q : State → Prop} {X : (Nat → Prop) → State → Heap → Prop} {aK aV : Nat → Nat} {tO tT : Nat} {gO gT : Nat → Int32} {a : Nat → Nat → Nat} {ba : Nat → Nat} {o b L i cells slots : Nat} {xs : Nat → Int32} {w : va_W} (C : Fg p s m args meth c cL_law 7 RL D cy A) (hE : X A s s.heap) (hT : EnvT X cy aK aV tO tT gO gT) (hN : EnvN X) (hl : l.stackTraces = false) (hx : va_X b L xs s s.heap) (hbl : b < s.heap.size) (hbA : ¬ A b) (hi : i + 5 ≤ L) (hL : L ≤ 2560) (hc : cells + 500 ≤ room_1.cells) (hs : slots + 10000 ≤ room_1.slots) (hJ : JW cy a ba o w) (kk : ∀ w' : va_W, JW cy a ba o w' → vW p l e room_1 s m args below meth c D vwCl A Q 7 (cells + 500) (slots + 10000) w' [some (.ref b), some (.ref (a 0 0)), some (.ref (ba 9)), some (.ref o), some (.int (nI i)), none, none] 3456 []) : vW p l e room_1 s m args below meth c D vwCl A Q 7 cells slots w [some (.ref b), some (.ref (a 0 0)), some (.ref (ba 9)), some (.ref o), some (.int (nI i)), none, none] 1080 [] := by
  have hX := hT.1.1
  obtain ⟨f, r, hf, hq, kn, ra, th, sm, n, v, hC, hB, hM, rfl⟩ := hJ
  refine r_aload_n C dL_law_1080 rfl ?_
  refine r_aload_n C dL_law_1081 rfl ?_
  refine r_iload C dL_law_1082 rfl ?_
  refine r_iconst (v := nI 1) C dL_law_1084 (by decide) ?_
  refine r_iaddN C dL_law_1085 ?_
  refine r_sld C hx hbl hbA (show i + 1 < L by omega) (by omega) dL_law_1086 ?_
  refine r_aload_n C dL_law_1087 rfl ?_
  refine r_iload C dL_law_1088 rfl ?_
  refine r_iconst (v := nI 2) C dL_law_1090 (by decide) ?_
  refine r_iaddN C dL_law_1091 ?_
  refine r_sld C hx hbl hbA (show i + 2 < L by omega) (by omega) dL_law_1092 ?_
  refine r_aload_n C dL_law_1093 rfl ?_
  refine c_SH (st := []) hX.1.stb C hE (W_sortBy hX.1 hN hC hB hM (P_sortBy hX hl hC hB hM (xs (i + 1)) (xs (i + 2)))) pk_L_sortBy qm_L_221 rfl rfl (Nat.le_of_ble_eq_true rfl) dL_law_1094 ⟨(Nat.le_of_ble_eq_true rfl), (Nat.le_of_ble_eq_true rfl)⟩ ⟨show cells + 1 ≤ room_1.cells by omega, show slots + 6 ≤ room_1.slots by omega⟩ (fun v9 w9 h9 => ?_) (fun _ h9 => h9.elim)
  obtain ⟨f', r', k, n1, rfl, rfl, hf', hq', n2, hC', hB', hM', hk0, hk4, h2⟩ := h9
  refine r_istore C dL_law_1097 (by decide) rfl ?_
  refine r_aload_n C dL_law_1099 rfl ?_
  refine r_aload_n C dL_law_1100 rfl ?_
  refine r_iload C dL_law_1101 rfl ?_
  refine r_iconst (v := nI 1) C dL_law_1103 (by decide) ?_
  refine r_iaddN C dL_law_1104 ?_
  refine r_sld C hx hbl hbA (show i + 1 < L by omega) (by omega) dL_law_1105 ?_
  refine r_aload_n C dL_law_1106 rfl ?_
  refine r_iload C dL_law_1107 rfl ?_
  refine r_iconst (v := nI 2) C dL_law_1109 (by decide) ?_
  refine r_iaddN C dL_law_1110 ?_
  refine r_sld C hx hbl hbA (show i + 2 < L by omega) (by omega) dL_law_1111 ?_
  refine t_swap3 ?_
  refine c_V (st := []) hX.1.stb C hE (h2 _) pk_X4_sortBy qm_L_223 0 8 rfl rfl wm_0 rfl rfl (Nat.le_of_ble_eq_true rfl) dL_law_1112 ⟨(Nat.le_of_ble_eq_true rfl), (Nat.le_of_ble_eq_true rfl)⟩ ⟨show cells + 1 + 4 ≤ room_1.cells by omega, show slots + 6 + 48 ≤ room_1.slots by omega⟩ (fun v9 w9 h9 => ?_) (fun _ h9 => h9.elim)
  obtain ⟨ra9, rfl, rfl⟩ := h9
  refine r_istore C dL_law_1115 (by decide) rfl ?_
  refine r_aload_n C dL_law_1117 rfl ?_
  refine d_V (st := []) hX.1.stb C hE (D_thrown hX) pk_X4_thrown qm_L_181 0 8 rfl rfl wm_0 rfl rfl (Nat.le_of_ble_eq_true rfl) dL_law_1118 ⟨(Nat.le_of_ble_eq_true rfl), (Nat.le_of_ble_eq_true rfl)⟩ ⟨show cells + 1 + 4 + 0 ≤ room_1.cells by omega, show slots + 6 + 48 + 0 ≤ room_1.slots by omega⟩ ?_
  refine r_iload C dL_law_1121 rfl ?_
  refine r_ic_eq (tgt := 1128) C dL_law_1123 (by decide) (fun _ => ?_) (fun hne => absurd rfl hne)
  refine t_swap3 ?_
  refine r_iload C dL_law_1128 rfl ?_
  refine r_ifN_ne (a := k) (tgt := 1146) C (by omega) dL_law_1130 (by decide) (fun hk => ?_) (fun hk => ?_)
  · skip
    refine r_goto (tgt := 3456) C dL_law_1146 (by decide) ?_
    refine r_widen (k := cells + 500) (n := slots + 10000) (show cells + 1 + 4 + 0 ≤ cells + 500 by omega) (show slots + 6 + 48 + 0 ≤ slots + 10000 by omega) ?_
    refine r_drop 5 ?_
    refine r_drop 6 ?_
    exact kk _ ⟨f', r', hf', hq', kn, ra9, _, sm, _, _, hC', hB', hM', rfl⟩
  · subst hk
    have e1 := hk0 rfl
    subst e1
    refine r_aload_n C dL_law_1133 rfl ?_
    refine g_getN hX.1 C hE qu_X3 (ci := 7) rfl 38 outo_at 0 (by decide) qn_L_13 rfl rfl dL_law_1134 ?_
    refine r_iload C dL_law_1137 rfl ?_
    refine r_i2l C dL_law_1139 ?_
    refine r_lcmpE C dL_law_1140 ?_
    refine r_if_eq (tgt := 1146) C dL_law_1141 (by decide) (fun _ => ?_) (fun hne => absurd rfl hne)
    refine r_goto (tgt := 3456) C dL_law_1146 (by decide) ?_
    refine r_widen (k := cells + 500) (n := slots + 10000) (show cells + 1 + 4 + 0 ≤ cells + 500 by omega) (show slots + 6 + 48 + 0 ≤ slots + 10000 by omega) ?_
    refine r_drop 5 ?_
    refine r_drop 6 ?_
    exact kk _ ⟨f', r', hf', hq', kn, ra9, _, sm, _, _, hC', hB', hM', rfl⟩
theorem S_get {p : Program} {l : Launch} {e : Env} {s : State} {m : MethodId} {args : Array Value} {below : List Frame} {meth : Method} {c : Code} {D : va_G} {cy : Nat → ClassId} {A : Nat → Prop} {Q : State → Prop} {X : (Nat → Prop) → State → Heap → Prop} {aK aV : Nat → Nat} {tO tT : Nat} {gO gT : Nat → Int32} {a : Nat → Nat → Nat} {ba : Nat → Nat} {o b L i cells slots : Nat} {xs : Nat → Int32} {w : va_W} (C : Fg p s m args meth c cL_law 7 RL D cy A) (hE : X A s s.heap) (hT : EnvT X cy aK aV tO tT gO gT) (hN : EnvN X) (hl : l.stackTraces = false) (hx : va_X b L xs s s.heap) (hbl : b < s.heap.size) (hbA : ¬ A b) (hi : i + 5 ≤ L) (hL : L ≤ 2560) (hc : cells + 500 ≤ room_1.cells) (hs : slots + 10000 ≤ room_1.slots) (hJ : JW cy a ba o w) (kk : ∀ w' : va_W, JW cy a ba o w' → vW p l e room_1 s m args below meth c D vwCl A Q 7 (cells + 500) (slots + 10000) w' [some (.ref b), some (.ref (a 0 0)), some (.ref (ba 9)), some (.ref o), some (.int (nI i)), none, none] 3456 []) : vW p l e room_1 s m args below meth c D vwCl A Q 7 cells slots w [some (.ref b), some (.ref (a 0 0)), some (.ref (ba 9)), some (.ref o), some (.int (nI i)), none, none] 1149 [] := by
  have hX := hT.1.1
  obtain ⟨f, r, hf, hq, kn, ra, th, sm, n, v, hC, hB, hM, rfl⟩ := hJ
  refine r_aload_n C dL_law_1149 rfl ?_
  refine r_aload_n C dL_law_1150 rfl ?_
  refine r_iload C dL_law_1151 rfl ?_
  refine r_iconst (v := nI 1) C dL_law_1153 (by decide) ?_
  refine r_iaddN C dL_law_1154 ?_
  refine r_sld C hx hbl hbA (show i + 1 < L by omega) (by omega) dL_law_1155 ?_
  refine r_aload_n C dL_law_1156 rfl ?_
  refine r_iload C dL_law_1157 rfl ?_
  refine r_iconst (v := nI 2) C dL_law_1159 (by decide) ?_
  refine r_iaddN C dL_law_1160 ?_
  refine r_sld C hx hbl hbA (show i + 2 < L by omega) (by omega) dL_law_1161 ?_
  refine r_aload_n C dL_law_1162 rfl ?_
  refine c_SH (st := []) hX.1.stb C hE (W_get hX.1 hN hC hB hM (P_get hX hl hC hB hM (xs (i + 1)) (xs (i + 2)))) pk_L_get qm_L_224 rfl rfl (Nat.le_of_ble_eq_true rfl) dL_law_1163 ⟨(Nat.le_of_ble_eq_true rfl), (Nat.le_of_ble_eq_true rfl)⟩ ⟨show cells + 1 ≤ room_1.cells by omega, show slots + 6 ≤ room_1.slots by omega⟩ (fun v9 w9 h9 => ?_) (fun _ h9 => h9.elim)
  obtain ⟨f', r', k, n1, rfl, rfl, hf', hq', n2, hC', hB', hM', hk0, hk4, h2⟩ := h9
  refine r_istore C dL_law_1166 (by decide) rfl ?_
  refine r_aload_n C dL_law_1168 rfl ?_
  refine r_aload_n C dL_law_1169 rfl ?_
  refine r_iload C dL_law_1170 rfl ?_
  refine r_iconst (v := nI 1) C dL_law_1172 (by decide) ?_
  refine r_iaddN C dL_law_1173 ?_
  refine r_sld C hx hbl hbA (show i + 1 < L by omega) (by omega) dL_law_1174 ?_
  refine r_aload_n C dL_law_1175 rfl ?_
  refine r_iload C dL_law_1176 rfl ?_
  refine r_iconst (v := nI 2) C dL_law_1178 (by decide) ?_
  refine r_iaddN C dL_law_1179 ?_
  refine r_sld C hx hbl hbA (show i + 2 < L by omega) (by omega) dL_law_1180 ?_
  refine t_swap3 ?_
  refine c_V (st := []) hX.1.stb C hE (h2 _) pk_X4_get qm_L_226 0 8 rfl rfl wm_0 rfl rfl (Nat.le_of_ble_eq_true rfl) dL_law_1181 ⟨(Nat.le_of_ble_eq_true rfl), (Nat.le_of_ble_eq_true rfl)⟩ ⟨show cells + 1 + 4 ≤ room_1.cells by omega, show slots + 6 + 48 ≤ room_1.slots by omega⟩ (fun v9 w9 h9 => ?_) (fun _ h9 => h9.elim)
  obtain ⟨ra9, rfl, rfl⟩ := h9
  refine r_istore C dL_law_1184 (by decide) rfl ?_
  refine r_aload_n C dL_law_1186 rfl ?_
  refine d_V (st := []) hX.1.stb C hE (D_thrown hX) pk_X4_thrown qm_L_181 0 8 rfl rfl wm_0 rfl rfl (Nat.le_of_ble_eq_true rfl) dL_law_1187 ⟨(Nat.le_of_ble_eq_true rfl), (Nat.le_of_ble_eq_true rfl)⟩ ⟨show cells + 1 + 4 + 0 ≤ room_1.cells by omega, show slots + 6 + 48 + 0 ≤ room_1.slots by omega⟩ ?_
  refine r_iload C dL_law_1190 rfl ?_
  refine r_ic_eq (tgt := 1197) C dL_law_1192 (by decide) (fun _ => ?_) (fun hne => absurd rfl hne)
  refine t_swap3 ?_
  refine r_iload C dL_law_1197 rfl ?_
  refine r_ifN_ne (a := k) (tgt := 1215) C (by omega) dL_law_1199 (by decide) (fun hk => ?_) (fun hk => ?_)
  · skip
    refine r_goto (tgt := 3456) C dL_law_1215 (by decide) ?_
    refine r_widen (k := cells + 500) (n := slots + 10000) (show cells + 1 + 4 + 0 ≤ cells + 500 by omega) (show slots + 6 + 48 + 0 ≤ slots + 10000 by omega) ?_
    refine r_drop 5 ?_
    refine r_drop 6 ?_
    exact kk _ ⟨f', r', hf', hq', kn, ra9, _, sm, _, _, hC', hB', hM', rfl⟩
  · subst hk
    have e1 := hk0 rfl
    subst e1
    refine r_aload_n C dL_law_1202 rfl ?_
    refine g_getN hX.1 C hE qu_X3 (ci := 7) rfl 38 outo_at 0 (by decide) qn_L_13 rfl rfl dL_law_1203 ?_
    refine r_iload C dL_law_1206 rfl ?_
    refine r_i2l C dL_law_1208 ?_
    refine r_lcmpE C dL_law_1209 ?_
    refine r_if_eq (tgt := 1215) C dL_law_1210 (by decide) (fun _ => ?_) (fun hne => absurd rfl hne)
    refine r_goto (tgt := 3456) C dL_law_1215 (by decide) ?_
    refine r_widen (k := cells + 500) (n := slots + 10000) (show cells + 1 + 4 + 0 ≤ cells + 500 by omega) (show slots + 6 + 48 + 0 ≤ slots + 10000 by omega) ?_
    refine r_drop 5 ?_
    refine r_drop 6 ?_
    exact kk _ ⟨f', r', hf', hq', kn, ra9, _, sm, _, _, hC', hB', hM', rfl⟩
theorem S_size {p : Program} {l : Launch} {e : Env} {s : State} {m : MethodId} {args : Array Value} {below : List Frame} {meth : Method} {c : Code} {D : va_G} {cy : Nat → ClassId} {A : Nat → Prop} {Q : State → Prop} {X : (Nat → Prop) → State → Heap → Prop} {aK aV : Nat → Nat} {tO tT : Nat} {gO gT : Nat → Int32} {a : Nat → Nat → Nat} {ba : Nat → Nat} {o b L i cells slots : Nat} {xs : Nat → Int32} {w : va_W} (C : Fg p s m args meth c cL_law 7 RL D cy A) (hE : X A s s.heap) (hT : EnvT X cy aK aV tO tT gO gT) (hN : EnvN X) (hl : l.stackTraces = false) (hx : va_X b L xs s s.heap) (hbl : b < s.heap.size) (hbA : ¬ A b) (hi : i + 5 ≤ L) (hL : L ≤ 2560) (hc : cells + 500 ≤ room_1.cells) (hs : slots + 10000 ≤ room_1.slots) (hJ : JW cy a ba o w) (kk : ∀ w' : va_W, JW cy a ba o w' → vW p l e room_1 s m args below meth c D vwCl A Q 7 (cells + 500) (slots + 10000) w' [some (.ref b), some (.ref (a 0 0)), some (.ref (ba 9)), some (.ref o), some (.int (nI i)), none, none] 3456 []) : vW p l e room_1 s m args below meth c D vwCl A Q 7 cells slots w [some (.ref b), some (.ref (a 0 0)), some (.ref (ba 9)), some (.ref o), some (.int (nI i)), none, none] 1218 [] := by
  have hX := hT.1.1
  obtain ⟨f, r, hf, hq, kn, ra, th, sm, n, v, hC, hB, hM, rfl⟩ := hJ
  refine r_aload_n C dL_law_1218 rfl ?_
  refine r_aload_n C dL_law_1219 rfl ?_
  refine r_iload C dL_law_1220 rfl ?_
  refine r_iconst (v := nI 1) C dL_law_1222 (by decide) ?_
  refine r_iaddN C dL_law_1223 ?_
  refine r_sld C hx hbl hbA (show i + 1 < L by omega) (by omega) dL_law_1224 ?_
  refine r_aload_n C dL_law_1225 rfl ?_
  refine c_SH (st := []) hX.1.stb C hE (W_size hX.1 hN hC hB hM (P_size hX hl hC hB hM (xs (i + 1)))) pk_L_size qm_L_227 rfl rfl (Nat.le_of_ble_eq_true rfl) dL_law_1226 ⟨(Nat.le_of_ble_eq_true rfl), (Nat.le_of_ble_eq_true rfl)⟩ ⟨show cells + 1 ≤ room_1.cells by omega, show slots + 6 ≤ room_1.slots by omega⟩ (fun v9 w9 h9 => ?_) (fun _ h9 => h9.elim)
  obtain ⟨f', r', k, n1, rfl, rfl, hf', hq', n2, hC', hB', hM', hk0, hk4, h2⟩ := h9
  refine r_istore C dL_law_1229 (by decide) rfl ?_
  refine r_aload_n C dL_law_1231 rfl ?_
  refine r_aload_n C dL_law_1232 rfl ?_
  refine r_iload C dL_law_1233 rfl ?_
  refine r_iconst (v := nI 1) C dL_law_1235 (by decide) ?_
  refine r_iaddN C dL_law_1236 ?_
  refine r_sld C hx hbl hbA (show i + 1 < L by omega) (by omega) dL_law_1237 ?_
  refine t_swap3 ?_
  refine c_V (st := []) hX.1.stb C hE (h2 _) pk_X4_size qm_L_229 0 8 rfl rfl wm_0 rfl rfl (Nat.le_of_ble_eq_true rfl) dL_law_1238 ⟨(Nat.le_of_ble_eq_true rfl), (Nat.le_of_ble_eq_true rfl)⟩ ⟨show cells + 1 + 4 ≤ room_1.cells by omega, show slots + 6 + 48 ≤ room_1.slots by omega⟩ (fun v9 w9 h9 => ?_) (fun _ h9 => h9.elim)
  obtain ⟨ra9, rfl, rfl⟩ := h9
  refine r_istore C dL_law_1241 (by decide) rfl ?_
  refine r_aload_n C dL_law_1243 rfl ?_
  refine d_V (st := []) hX.1.stb C hE (D_thrown hX) pk_X4_thrown qm_L_181 0 8 rfl rfl wm_0 rfl rfl (Nat.le_of_ble_eq_true rfl) dL_law_1244 ⟨(Nat.le_of_ble_eq_true rfl), (Nat.le_of_ble_eq_true rfl)⟩ ⟨show cells + 1 + 4 + 0 ≤ room_1.cells by omega, show slots + 6 + 48 + 0 ≤ room_1.slots by omega⟩ ?_
  refine r_iload C dL_law_1247 rfl ?_
  refine r_ic_eq (tgt := 1254) C dL_law_1249 (by decide) (fun _ => ?_) (fun hne => absurd rfl hne)
  refine t_swap3 ?_
  refine r_iload C dL_law_1254 rfl ?_
  refine r_ifN_ne (a := k) (tgt := 1272) C (by omega) dL_law_1256 (by decide) (fun hk => ?_) (fun hk => ?_)
  · skip
    refine r_goto (tgt := 3456) C dL_law_1272 (by decide) ?_
    refine r_widen (k := cells + 500) (n := slots + 10000) (show cells + 1 + 4 + 0 ≤ cells + 500 by omega) (show slots + 6 + 48 + 0 ≤ slots + 10000 by omega) ?_
    refine r_drop 5 ?_
    refine r_drop 6 ?_
    exact kk _ ⟨f', r', hf', hq', kn, ra9, _, sm, _, _, hC', hB', hM', rfl⟩
  · subst hk
    have e1 := hk0 rfl
    subst e1
    refine r_aload_n C dL_law_1259 rfl ?_
    refine g_getN hX.1 C hE qu_X3 (ci := 7) rfl 38 outo_at 0 (by decide) qn_L_13 rfl rfl dL_law_1260 ?_
    refine r_iload C dL_law_1263 rfl ?_
    refine r_i2l C dL_law_1265 ?_
    refine r_lcmpE C dL_law_1266 ?_
    refine r_if_eq (tgt := 1272) C dL_law_1267 (by decide) (fun _ => ?_) (fun hne => absurd rfl hne)
    refine r_goto (tgt := 3456) C dL_law_1272 (by decide) ?_
    refine r_widen (k := cells + 500) (n := slots + 10000) (show cells + 1 + 4 + 0 ≤ cells + 500 by omega) (show slots + 6 + 48 + 0 ≤ slots + 10000 by omega) ?_
    refine r_drop 5 ?_
    refine r_drop 6 ?_
    exact kk _ ⟨f', r', hf', hq', kn, ra9, _, sm, _, _, hC', hB', hM', rfl⟩
theorem S_partAt {p : Program} {l : Launch} {e : Env} {s : State} {m : MethodId} {args : Array Value} {below : List Frame} {meth : Method} {c : Code} {D : va_G} {cy : Nat → ClassId} {A : Nat → Prop} {Q : State → Prop} {X : (Nat → Prop) → State → Heap → Prop} {aK aV : Nat → Nat} {tO tT : Nat} {gO gT : Nat → Int32} {a : Nat → Nat → Nat} {ba : Nat → Nat} {o b L i cells slots : Nat} {xs : Nat → Int32} {w : va_W} (C : Fg p s m args meth c cL_law 7 RL D cy A) (hE : X A s s.heap) (hT : EnvT X cy aK aV tO tT gO gT) (hN : EnvN X) (hl : l.stackTraces = false) (hx : va_X b L xs s s.heap) (hbl : b < s.heap.size) (hbA : ¬ A b) (hi : i + 5 ≤ L) (hL : L ≤ 2560) (hc : cells + 500 ≤ room_1.cells) (hs : slots + 10000 ≤ room_1.slots) (hJ : JW cy a ba o w) (kk : ∀ w' : va_W, JW cy a ba o w' → vW p l e room_1 s m args below meth c D vwCl A Q 7 (cells + 500) (slots + 10000) w' [some (.ref b), some (.ref (a 0 0)), some (.ref (ba 9)), some (.ref o), some (.int (nI i)), none, none] 3456 []) : vW p l e room_1 s m args below meth c D vwCl A Q 7 cells slots w [some (.ref b), some (.ref (a 0 0)), some (.ref (ba 9)), some (.ref o), some (.int (nI i)), none, none] 1275 [] := by
  have hX := hT.1.1
  obtain ⟨f, r, hf, hq, kn, ra, th, sm, n, v, hC, hB, hM, rfl⟩ := hJ
  refine r_aload_n C dL_law_1275 rfl ?_
  refine r_aload_n C dL_law_1276 rfl ?_
  refine r_iload C dL_law_1277 rfl ?_
  refine r_iconst (v := nI 1) C dL_law_1279 (by decide) ?_
  refine r_iaddN C dL_law_1280 ?_
  refine r_sld C hx hbl hbA (show i + 1 < L by omega) (by omega) dL_law_1281 ?_
  refine r_aload_n C dL_law_1282 rfl ?_
  refine r_iload C dL_law_1283 rfl ?_
  refine r_iconst (v := nI 2) C dL_law_1285 (by decide) ?_
  refine r_iaddN C dL_law_1286 ?_
  refine r_sld C hx hbl hbA (show i + 2 < L by omega) (by omega) dL_law_1287 ?_
  refine r_aload_n C dL_law_1288 rfl ?_
  refine c_SH (st := []) hX.1.stb C hE (W_partAt hX.1 hN hC hB hM (P_partAt hX hl hC hB hM (xs (i + 1)) (xs (i + 2)))) pk_L_partAt qm_L_230 rfl rfl (Nat.le_of_ble_eq_true rfl) dL_law_1289 ⟨(Nat.le_of_ble_eq_true rfl), (Nat.le_of_ble_eq_true rfl)⟩ ⟨show cells + 1 ≤ room_1.cells by omega, show slots + 6 ≤ room_1.slots by omega⟩ (fun v9 w9 h9 => ?_) (fun _ h9 => h9.elim)
  obtain ⟨f', r', k, n1, rfl, rfl, hf', hq', n2, hC', hB', hM', hk0, hk4, h2⟩ := h9
  refine r_istore C dL_law_1292 (by decide) rfl ?_
  refine r_aload_n C dL_law_1294 rfl ?_
  refine r_aload_n C dL_law_1295 rfl ?_
  refine r_iload C dL_law_1296 rfl ?_
  refine r_iconst (v := nI 1) C dL_law_1298 (by decide) ?_
  refine r_iaddN C dL_law_1299 ?_
  refine r_sld C hx hbl hbA (show i + 1 < L by omega) (by omega) dL_law_1300 ?_
  refine r_aload_n C dL_law_1301 rfl ?_
  refine r_iload C dL_law_1302 rfl ?_
  refine r_iconst (v := nI 2) C dL_law_1304 (by decide) ?_
  refine r_iaddN C dL_law_1305 ?_
  refine r_sld C hx hbl hbA (show i + 2 < L by omega) (by omega) dL_law_1306 ?_
  refine t_swap3 ?_
  refine c_V (st := []) hX.1.stb C hE (h2 _) pk_X4_partAt qm_L_232 0 8 rfl rfl wm_0 rfl rfl (Nat.le_of_ble_eq_true rfl) dL_law_1307 ⟨(Nat.le_of_ble_eq_true rfl), (Nat.le_of_ble_eq_true rfl)⟩ ⟨show cells + 1 + 4 ≤ room_1.cells by omega, show slots + 6 + 48 ≤ room_1.slots by omega⟩ (fun v9 w9 h9 => ?_) (fun _ h9 => h9.elim)
  obtain ⟨ra9, rfl, rfl⟩ := h9
  refine r_istore C dL_law_1310 (by decide) rfl ?_
  refine r_aload_n C dL_law_1312 rfl ?_
  refine d_V (st := []) hX.1.stb C hE (D_thrown hX) pk_X4_thrown qm_L_181 0 8 rfl rfl wm_0 rfl rfl (Nat.le_of_ble_eq_true rfl) dL_law_1313 ⟨(Nat.le_of_ble_eq_true rfl), (Nat.le_of_ble_eq_true rfl)⟩ ⟨show cells + 1 + 4 + 0 ≤ room_1.cells by omega, show slots + 6 + 48 + 0 ≤ room_1.slots by omega⟩ ?_
  refine r_iload C dL_law_1316 rfl ?_
  refine r_ic_eq (tgt := 1323) C dL_law_1318 (by decide) (fun _ => ?_) (fun hne => absurd rfl hne)
  refine t_swap3 ?_
  refine r_iload C dL_law_1323 rfl ?_
  refine r_ifN_ne (a := k) (tgt := 1341) C (by omega) dL_law_1325 (by decide) (fun hk => ?_) (fun hk => ?_)
  · skip
    refine r_goto (tgt := 3456) C dL_law_1341 (by decide) ?_
    refine r_widen (k := cells + 500) (n := slots + 10000) (show cells + 1 + 4 + 0 ≤ cells + 500 by omega) (show slots + 6 + 48 + 0 ≤ slots + 10000 by omega) ?_
    refine r_drop 5 ?_
    refine r_drop 6 ?_
    exact kk _ ⟨f', r', hf', hq', kn, ra9, _, sm, _, _, hC', hB', hM', rfl⟩
  · subst hk
    have e1 := hk0 rfl
    subst e1
    refine r_aload_n C dL_law_1328 rfl ?_
    refine g_getN hX.1 C hE qu_X3 (ci := 7) rfl 38 outo_at 0 (by decide) qn_L_13 rfl rfl dL_law_1329 ?_
    refine r_iload C dL_law_1332 rfl ?_
    refine r_i2l C dL_law_1334 ?_
    refine r_lcmpE C dL_law_1335 ?_
    refine r_if_eq (tgt := 1341) C dL_law_1336 (by decide) (fun _ => ?_) (fun hne => absurd rfl hne)
    refine r_goto (tgt := 3456) C dL_law_1341 (by decide) ?_
    refine r_widen (k := cells + 500) (n := slots + 10000) (show cells + 1 + 4 + 0 ≤ cells + 500 by omega) (show slots + 6 + 48 + 0 ≤ slots + 10000 by omega) ?_
    refine r_drop 5 ?_
    refine r_drop 6 ?_
    exact kk _ ⟨f', r', hf', hq', kn, ra9, _, sm, _, _, hC', hB', hM', rfl⟩
theorem S_fill {p : Program} {l : Launch} {e : Env} {s : State} {m : MethodId} {args : Array Value} {below : List Frame} {meth : Method} {c : Code} {D : va_G} {cy : Nat → ClassId} {A : Nat → Prop} {Q : State → Prop} {X : (Nat → Prop) → State → Heap → Prop} {aK aV : Nat → Nat} {tO tT : Nat} {gO gT : Nat → Int32} {a : Nat → Nat → Nat} {ba : Nat → Nat} {o b L i cells slots : Nat} {xs : Nat → Int32} {w : va_W} (C : Fg p s m args meth c cL_law 7 RL D cy A) (hE : X A s s.heap) (hT : EnvT X cy aK aV tO tT gO gT) (hN : EnvN X) (hl : l.stackTraces = false) (hx : va_X b L xs s s.heap) (hbl : b < s.heap.size) (hbA : ¬ A b) (hi : i + 5 ≤ L) (hL : L ≤ 2560) (hc : cells + 500 ≤ room_1.cells) (hs : slots + 10000 ≤ room_1.slots) (hJ : JW cy a ba o w) (kk : ∀ w' : va_W, JW cy a ba o w' → vW p l e room_1 s m args below meth c D vwCl A Q 7 (cells + 500) (slots + 10000) w' [some (.ref b), some (.ref (a 0 0)), some (.ref (ba 9)), some (.ref o), some (.int (nI i)), none, none] 3456 []) : vW p l e room_1 s m args below meth c D vwCl A Q 7 cells slots w [some (.ref b), some (.ref (a 0 0)), some (.ref (ba 9)), some (.ref o), some (.int (nI i)), none, none] 1344 [] := by
  have hX := hT.1.1
  obtain ⟨f, r, hf, hq, kn, ra, th, sm, n, v, hC, hB, hM, rfl⟩ := hJ
  refine r_aload_n C dL_law_1344 rfl ?_
  refine r_aload_n C dL_law_1345 rfl ?_
  refine r_iload C dL_law_1346 rfl ?_
  refine r_iconst (v := nI 1) C dL_law_1348 (by decide) ?_
  refine r_iaddN C dL_law_1349 ?_
  refine r_sld C hx hbl hbA (show i + 1 < L by omega) (by omega) dL_law_1350 ?_
  refine r_aload_n C dL_law_1351 rfl ?_
  refine r_iload C dL_law_1352 rfl ?_
  refine r_iconst (v := nI 2) C dL_law_1354 (by decide) ?_
  refine r_iaddN C dL_law_1355 ?_
  refine r_sld C hx hbl hbA (show i + 2 < L by omega) (by omega) dL_law_1356 ?_
  refine r_aload_n C dL_law_1357 rfl ?_
  refine c_SH (st := []) hX.1.stb C hE (W_fill hX.1 hN hC hB hM (P_fill hX hl hC hB hM (xs (i + 1)) (xs (i + 2)))) pk_L_fill qm_L_233 rfl rfl (Nat.le_of_ble_eq_true rfl) dL_law_1358 ⟨(Nat.le_of_ble_eq_true rfl), (Nat.le_of_ble_eq_true rfl)⟩ ⟨show cells + 1 ≤ room_1.cells by omega, show slots + 6 ≤ room_1.slots by omega⟩ (fun v9 w9 h9 => ?_) (fun _ h9 => h9.elim)
  obtain ⟨f', r', k, n1, rfl, rfl, hf', hq', n2, hC', hB', hM', hk0, hk4, h2⟩ := h9
  refine r_istore C dL_law_1361 (by decide) rfl ?_
  refine r_aload_n C dL_law_1363 rfl ?_
  refine r_aload_n C dL_law_1364 rfl ?_
  refine r_iload C dL_law_1365 rfl ?_
  refine r_iconst (v := nI 1) C dL_law_1367 (by decide) ?_
  refine r_iaddN C dL_law_1368 ?_
  refine r_sld C hx hbl hbA (show i + 1 < L by omega) (by omega) dL_law_1369 ?_
  refine r_aload_n C dL_law_1370 rfl ?_
  refine r_iload C dL_law_1371 rfl ?_
  refine r_iconst (v := nI 2) C dL_law_1373 (by decide) ?_
  refine r_iaddN C dL_law_1374 ?_
  refine r_sld C hx hbl hbA (show i + 2 < L by omega) (by omega) dL_law_1375 ?_
  refine t_swap3 ?_
  refine c_V (st := []) hX.1.stb C hE (h2 _) pk_X4_fill qm_L_235 0 8 rfl rfl wm_0 rfl rfl (Nat.le_of_ble_eq_true rfl) dL_law_1376 ⟨(Nat.le_of_ble_eq_true rfl), (Nat.le_of_ble_eq_true rfl)⟩ ⟨show cells + 1 + 4 ≤ room_1.cells by omega, show slots + 6 + 48 ≤ room_1.slots by omega⟩ (fun v9 w9 h9 => ?_) (fun _ h9 => h9.elim)
  obtain ⟨ra9, rfl, rfl⟩ := h9
  refine r_istore C dL_law_1379 (by decide) rfl ?_
  refine r_aload_n C dL_law_1381 rfl ?_
  refine d_V (st := []) hX.1.stb C hE (D_thrown hX) pk_X4_thrown qm_L_181 0 8 rfl rfl wm_0 rfl rfl (Nat.le_of_ble_eq_true rfl) dL_law_1382 ⟨(Nat.le_of_ble_eq_true rfl), (Nat.le_of_ble_eq_true rfl)⟩ ⟨show cells + 1 + 4 + 0 ≤ room_1.cells by omega, show slots + 6 + 48 + 0 ≤ room_1.slots by omega⟩ ?_
  refine r_iload C dL_law_1385 rfl ?_
  refine r_ic_eq (tgt := 1392) C dL_law_1387 (by decide) (fun _ => ?_) (fun hne => absurd rfl hne)
  refine t_swap3 ?_
  refine r_iload C dL_law_1392 rfl ?_
  refine r_ifN_ne (a := k) (tgt := 1410) C (by omega) dL_law_1394 (by decide) (fun hk => ?_) (fun hk => ?_)
  · skip
    refine r_goto (tgt := 3456) C dL_law_1410 (by decide) ?_
    refine r_widen (k := cells + 500) (n := slots + 10000) (show cells + 1 + 4 + 0 ≤ cells + 500 by omega) (show slots + 6 + 48 + 0 ≤ slots + 10000 by omega) ?_
    refine r_drop 5 ?_
    refine r_drop 6 ?_
    exact kk _ ⟨f', r', hf', hq', kn, ra9, _, sm, _, _, hC', hB', hM', rfl⟩
  · subst hk
    have e1 := hk0 rfl
    subst e1
    refine r_aload_n C dL_law_1397 rfl ?_
    refine g_getN hX.1 C hE qu_X3 (ci := 7) rfl 38 outo_at 0 (by decide) qn_L_13 rfl rfl dL_law_1398 ?_
    refine r_iload C dL_law_1401 rfl ?_
    refine r_i2l C dL_law_1403 ?_
    refine r_lcmpE C dL_law_1404 ?_
    refine r_if_eq (tgt := 1410) C dL_law_1405 (by decide) (fun _ => ?_) (fun hne => absurd rfl hne)
    refine r_goto (tgt := 3456) C dL_law_1410 (by decide) ?_
    refine r_widen (k := cells + 500) (n := slots + 10000) (show cells + 1 + 4 + 0 ≤ cells + 500 by omega) (show slots + 6 + 48 + 0 ≤ slots + 10000 by omega) ?_
    refine r_drop 5 ?_
    refine r_drop 6 ?_
    exact kk _ ⟨f', r', hf', hq', kn, ra9, _, sm, _, _, hC', hB', hM', rfl⟩
theorem S_removeItem {p : Program} {l : Launch} {e : Env} {s : State} {m : MethodId} {args : Array Value} {below : List Frame} {meth : Method} {c : Code} {D : va_G} {cy : Nat → ClassId} {A : Nat → Prop} {Q : State → Prop} {X : (Nat → Prop) → State → Heap → Prop} {aK aV : Nat → Nat} {tO tT : Nat} {gO gT : Nat → Int32} {a : Nat → Nat → Nat} {ba : Nat → Nat} {o b L i cells slots : Nat} {xs : Nat → Int32} {w : va_W} (C : Fg p s m args meth c cL_law 7 RL D cy A) (hE : X A s s.heap) (hT : EnvT X cy aK aV tO tT gO gT) (hN : EnvN X) (hl : l.stackTraces = false) (hx : va_X b L xs s s.heap) (hbl : b < s.heap.size) (hbA : ¬ A b) (hi : i + 5 ≤ L) (hL : L ≤ 2560) (hc : cells + 500 ≤ room_1.cells) (hs : slots + 10000 ≤ room_1.slots) (hJ : JW cy a ba o w) (kk : ∀ w' : va_W, JW cy a ba o w' → vW p l e room_1 s m args below meth c D vwCl A Q 7 (cells + 500) (slots + 10000) w' [some (.ref b), some (.ref (a 0 0)), some (.ref (ba 9)), some (.ref o), some (.int (nI i)), none, none] 3456 []) : vW p l e room_1 s m args below meth c D vwCl A Q 7 cells slots w [some (.ref b), some (.ref (a 0 0)), some (.ref (ba 9)), some (.ref o), some (.int (nI i)), none, none] 1413 [] := by
  have hX := hT.1.1
  obtain ⟨f, r, hf, hq, kn, ra, th, sm, n, v, hC, hB, hM, rfl⟩ := hJ
  refine r_aload_n C dL_law_1413 rfl ?_
  refine r_aload_n C dL_law_1414 rfl ?_
  refine r_iload C dL_law_1415 rfl ?_
  refine r_iconst (v := nI 1) C dL_law_1417 (by decide) ?_
  refine r_iaddN C dL_law_1418 ?_
  refine r_sld C hx hbl hbA (show i + 1 < L by omega) (by omega) dL_law_1419 ?_
  refine r_aload_n C dL_law_1420 rfl ?_
  refine r_iload C dL_law_1421 rfl ?_
  refine r_iconst (v := nI 2) C dL_law_1423 (by decide) ?_
  refine r_iaddN C dL_law_1424 ?_
  refine r_sld C hx hbl hbA (show i + 2 < L by omega) (by omega) dL_law_1425 ?_
  refine r_aload_n C dL_law_1426 rfl ?_
  refine c_SH (st := []) hX.1.stb C hE (W_removeItem hX.1 hN hC hB hM (P_removeItem hX hl hC hB hM (xs (i + 1)) (xs (i + 2)))) pk_L_removeItem qm_L_236 rfl rfl (Nat.le_of_ble_eq_true rfl) dL_law_1427 ⟨(Nat.le_of_ble_eq_true rfl), (Nat.le_of_ble_eq_true rfl)⟩ ⟨show cells + 1 ≤ room_1.cells by omega, show slots + 6 ≤ room_1.slots by omega⟩ (fun v9 w9 h9 => ?_) (fun _ h9 => h9.elim)
  obtain ⟨f', r', k, n1, rfl, rfl, hf', hq', n2, hC', hB', hM', hk0, hk4, h2⟩ := h9
  refine r_istore C dL_law_1430 (by decide) rfl ?_
  refine r_aload_n C dL_law_1432 rfl ?_
  refine r_aload_n C dL_law_1433 rfl ?_
  refine r_iload C dL_law_1434 rfl ?_
  refine r_iconst (v := nI 1) C dL_law_1436 (by decide) ?_
  refine r_iaddN C dL_law_1437 ?_
  refine r_sld C hx hbl hbA (show i + 1 < L by omega) (by omega) dL_law_1438 ?_
  refine r_aload_n C dL_law_1439 rfl ?_
  refine r_iload C dL_law_1440 rfl ?_
  refine r_iconst (v := nI 2) C dL_law_1442 (by decide) ?_
  refine r_iaddN C dL_law_1443 ?_
  refine r_sld C hx hbl hbA (show i + 2 < L by omega) (by omega) dL_law_1444 ?_
  refine t_swap3 ?_
  refine c_V (st := []) hX.1.stb C hE (h2 _) pk_X4_removeItem qm_L_238 0 8 rfl rfl wm_0 rfl rfl (Nat.le_of_ble_eq_true rfl) dL_law_1445 ⟨(Nat.le_of_ble_eq_true rfl), (Nat.le_of_ble_eq_true rfl)⟩ ⟨show cells + 1 + 4 ≤ room_1.cells by omega, show slots + 6 + 48 ≤ room_1.slots by omega⟩ (fun v9 w9 h9 => ?_) (fun _ h9 => h9.elim)
  obtain ⟨ra9, rfl, rfl⟩ := h9
  refine r_istore C dL_law_1448 (by decide) rfl ?_
  refine r_aload_n C dL_law_1450 rfl ?_
  refine d_V (st := []) hX.1.stb C hE (D_thrown hX) pk_X4_thrown qm_L_181 0 8 rfl rfl wm_0 rfl rfl (Nat.le_of_ble_eq_true rfl) dL_law_1451 ⟨(Nat.le_of_ble_eq_true rfl), (Nat.le_of_ble_eq_true rfl)⟩ ⟨show cells + 1 + 4 + 0 ≤ room_1.cells by omega, show slots + 6 + 48 + 0 ≤ room_1.slots by omega⟩ ?_
  refine r_iload C dL_law_1454 rfl ?_
  refine r_ic_eq (tgt := 1461) C dL_law_1456 (by decide) (fun _ => ?_) (fun hne => absurd rfl hne)
  refine t_swap3 ?_
  refine r_iload C dL_law_1461 rfl ?_
  refine r_ifN_ne (a := k) (tgt := 1479) C (by omega) dL_law_1463 (by decide) (fun hk => ?_) (fun hk => ?_)
  · skip
    refine r_goto (tgt := 3456) C dL_law_1479 (by decide) ?_
    refine r_widen (k := cells + 500) (n := slots + 10000) (show cells + 1 + 4 + 0 ≤ cells + 500 by omega) (show slots + 6 + 48 + 0 ≤ slots + 10000 by omega) ?_
    refine r_drop 5 ?_
    refine r_drop 6 ?_
    exact kk _ ⟨f', r', hf', hq', kn, ra9, _, sm, _, _, hC', hB', hM', rfl⟩
  · subst hk
    have e1 := hk0 rfl
    subst e1
    refine r_aload_n C dL_law_1466 rfl ?_
    refine g_getN hX.1 C hE qu_X3 (ci := 7) rfl 38 outo_at 0 (by decide) qn_L_13 rfl rfl dL_law_1467 ?_
    refine r_iload C dL_law_1470 rfl ?_
    refine r_i2l C dL_law_1472 ?_
    refine r_lcmpE C dL_law_1473 ?_
    refine r_if_eq (tgt := 1479) C dL_law_1474 (by decide) (fun _ => ?_) (fun hne => absurd rfl hne)
    refine r_goto (tgt := 3456) C dL_law_1479 (by decide) ?_
    refine r_widen (k := cells + 500) (n := slots + 10000) (show cells + 1 + 4 + 0 ≤ cells + 500 by omega) (show slots + 6 + 48 + 0 ≤ slots + 10000 by omega) ?_
    refine r_drop 5 ?_
    refine r_drop 6 ?_
    exact kk _ ⟨f', r', hf', hq', kn, ra9, _, sm, _, _, hC', hB', hM', rfl⟩
theorem S_addAll {p : Program} {l : Launch} {e : Env} {s : State} {m : MethodId} {args : Array Value} {below : List Frame} {meth : Method} {c : Code} {D : va_G} {cy : Nat → ClassId} {A : Nat → Prop} {Q : State → Prop} {X : (Nat → Prop) → State → Heap → Prop} {aK aV : Nat → Nat} {tO tT : Nat} {gO gT : Nat → Int32} {a : Nat → Nat → Nat} {ba : Nat → Nat} {o b L i cells slots : Nat} {xs : Nat → Int32} {w : va_W} (C : Fg p s m args meth c cL_law 7 RL D cy A) (hE : X A s s.heap) (hT : EnvT X cy aK aV tO tT gO gT) (hN : EnvN X) (hl : l.stackTraces = false) (hx : va_X b L xs s s.heap) (hbl : b < s.heap.size) (hbA : ¬ A b) (hi : i + 5 ≤ L) (hL : L ≤ 2560) (hc : cells + 500 ≤ room_1.cells) (hs : slots + 10000 ≤ room_1.slots) (hJ : JW cy a ba o w) (kk : ∀ w' : va_W, JW cy a ba o w' → vW p l e room_1 s m args below meth c D vwCl A Q 7 (cells + 500) (slots + 10000) w' [some (.ref b), some (.ref (a 0 0)), some (.ref (ba 9)), some (.ref o), some (.int (nI i)), none, none] 3456 []) : vW p l e room_1 s m args below meth c D vwCl A Q 7 cells slots w [some (.ref b), some (.ref (a 0 0)), some (.ref (ba 9)), some (.ref o), some (.int (nI i)), none, none] 1482 [] := by
  have hX := hT.1.1
  obtain ⟨f, r, hf, hq, kn, ra, th, sm, n, v, hC, hB, hM, rfl⟩ := hJ
  refine r_aload_n C dL_law_1482 rfl ?_
  refine r_aload_n C dL_law_1483 rfl ?_
  refine r_iload C dL_law_1484 rfl ?_
  refine r_iconst (v := nI 1) C dL_law_1486 (by decide) ?_
  refine r_iaddN C dL_law_1487 ?_
  refine r_sld C hx hbl hbA (show i + 1 < L by omega) (by omega) dL_law_1488 ?_
  refine r_aload_n C dL_law_1489 rfl ?_
  refine r_iload C dL_law_1490 rfl ?_
  refine r_iconst (v := nI 2) C dL_law_1492 (by decide) ?_
  refine r_iaddN C dL_law_1493 ?_
  refine r_sld C hx hbl hbA (show i + 2 < L by omega) (by omega) dL_law_1494 ?_
  refine r_aload_n C dL_law_1495 rfl ?_
  refine r_iload C dL_law_1496 rfl ?_
  refine r_iconst (v := nI 3) C dL_law_1498 (by decide) ?_
  refine r_iaddN C dL_law_1499 ?_
  refine r_sld C hx hbl hbA (show i + 3 < L by omega) (by omega) dL_law_1500 ?_
  refine r_aload_n C dL_law_1501 rfl ?_
  refine c_SH (st := []) hX.1.stb C hE (W_addAll hX.1 hN hC hB hM (P_addAll hX hl hC hB hM (xs (i + 1)) (xs (i + 2)) (xs (i + 3)))) pk_L_addAll qm_L_239 rfl rfl (Nat.le_of_ble_eq_true rfl) dL_law_1502 ⟨(Nat.le_of_ble_eq_true rfl), (Nat.le_of_ble_eq_true rfl)⟩ ⟨show cells + 1 ≤ room_1.cells by omega, show slots + 6 ≤ room_1.slots by omega⟩ (fun v9 w9 h9 => ?_) (fun _ h9 => h9.elim)
  obtain ⟨f', r', k, n1, rfl, rfl, hf', hq', n2, hC', hB', hM', hk0, hk4, h2⟩ := h9
  refine r_istore C dL_law_1505 (by decide) rfl ?_
  refine r_aload_n C dL_law_1507 rfl ?_
  refine r_aload_n C dL_law_1508 rfl ?_
  refine r_iload C dL_law_1509 rfl ?_
  refine r_iconst (v := nI 1) C dL_law_1511 (by decide) ?_
  refine r_iaddN C dL_law_1512 ?_
  refine r_sld C hx hbl hbA (show i + 1 < L by omega) (by omega) dL_law_1513 ?_
  refine r_aload_n C dL_law_1514 rfl ?_
  refine r_iload C dL_law_1515 rfl ?_
  refine r_iconst (v := nI 2) C dL_law_1517 (by decide) ?_
  refine r_iaddN C dL_law_1518 ?_
  refine r_sld C hx hbl hbA (show i + 2 < L by omega) (by omega) dL_law_1519 ?_
  refine r_aload_n C dL_law_1520 rfl ?_
  refine r_iload C dL_law_1521 rfl ?_
  refine r_iconst (v := nI 3) C dL_law_1523 (by decide) ?_
  refine r_iaddN C dL_law_1524 ?_
  refine r_sld C hx hbl hbA (show i + 3 < L by omega) (by omega) dL_law_1525 ?_
  refine t_swap3 ?_
  refine c_V (st := []) hX.1.stb C hE (h2 _) pk_X4_addAll qm_L_241 0 8 rfl rfl wm_0 rfl rfl (Nat.le_of_ble_eq_true rfl) dL_law_1526 ⟨(Nat.le_of_ble_eq_true rfl), (Nat.le_of_ble_eq_true rfl)⟩ ⟨show cells + 1 + 4 ≤ room_1.cells by omega, show slots + 6 + 48 ≤ room_1.slots by omega⟩ (fun v9 w9 h9 => ?_) (fun _ h9 => h9.elim)
  obtain ⟨ra9, rfl, rfl⟩ := h9
  refine r_istore C dL_law_1529 (by decide) rfl ?_
  refine r_aload_n C dL_law_1531 rfl ?_
  refine d_V (st := []) hX.1.stb C hE (D_thrown hX) pk_X4_thrown qm_L_181 0 8 rfl rfl wm_0 rfl rfl (Nat.le_of_ble_eq_true rfl) dL_law_1532 ⟨(Nat.le_of_ble_eq_true rfl), (Nat.le_of_ble_eq_true rfl)⟩ ⟨show cells + 1 + 4 + 0 ≤ room_1.cells by omega, show slots + 6 + 48 + 0 ≤ room_1.slots by omega⟩ ?_
  refine r_iload C dL_law_1535 rfl ?_
  refine r_ic_eq (tgt := 1542) C dL_law_1537 (by decide) (fun _ => ?_) (fun hne => absurd rfl hne)
  refine t_swap3 ?_
  refine r_iload C dL_law_1542 rfl ?_
  refine r_ifN_ne (a := k) (tgt := 1560) C (by omega) dL_law_1544 (by decide) (fun hk => ?_) (fun hk => ?_)
  · skip
    refine r_goto (tgt := 3456) C dL_law_1560 (by decide) ?_
    refine r_widen (k := cells + 500) (n := slots + 10000) (show cells + 1 + 4 + 0 ≤ cells + 500 by omega) (show slots + 6 + 48 + 0 ≤ slots + 10000 by omega) ?_
    refine r_drop 5 ?_
    refine r_drop 6 ?_
    exact kk _ ⟨f', r', hf', hq', kn, ra9, _, sm, _, _, hC', hB', hM', rfl⟩
  · subst hk
    have e1 := hk0 rfl
    subst e1
    refine r_aload_n C dL_law_1547 rfl ?_
    refine g_getN hX.1 C hE qu_X3 (ci := 7) rfl 38 outo_at 0 (by decide) qn_L_13 rfl rfl dL_law_1548 ?_
    refine r_iload C dL_law_1551 rfl ?_
    refine r_i2l C dL_law_1553 ?_
    refine r_lcmpE C dL_law_1554 ?_
    refine r_if_eq (tgt := 1560) C dL_law_1555 (by decide) (fun _ => ?_) (fun hne => absurd rfl hne)
    refine r_goto (tgt := 3456) C dL_law_1560 (by decide) ?_
    refine r_widen (k := cells + 500) (n := slots + 10000) (show cells + 1 + 4 + 0 ≤ cells + 500 by omega) (show slots + 6 + 48 + 0 ≤ slots + 10000 by omega) ?_
    refine r_drop 5 ?_
    refine r_drop 6 ?_
    exact kk _ ⟨f', r', hf', hq', kn, ra9, _, sm, _, _, hC', hB', hM', rfl⟩
theorem S_removeAll {p : Program} {l : Launch} {e : Env} {s : State} {m : MethodId} {args : Array Value} {below : List Frame} {meth : Method} {c : Code} {D : va_G} {cy : Nat → ClassId} {A : Nat → Prop} {Q : State → Prop} {X : (Nat → Prop) → State → Heap → Prop} {aK aV : Nat → Nat} {tO tT : Nat} {gO gT : Nat → Int32} {a : Nat → Nat → Nat} {ba : Nat → Nat} {o b L i cells slots : Nat} {xs : Nat → Int32} {w : va_W} (C : Fg p s m args meth c cL_law 7 RL D cy A) (hE : X A s s.heap) (hT : EnvT X cy aK aV tO tT gO gT) (hN : EnvN X) (hl : l.stackTraces = false) (hx : va_X b L xs s s.heap) (hbl : b < s.heap.size) (hbA : ¬ A b) (hi : i + 5 ≤ L) (hL : L ≤ 2560) (hc : cells + 500 ≤ room_1.cells) (hs : slots + 10000 ≤ room_1.slots) (hJ : JW cy a ba o w) (kk : ∀ w' : va_W, JW cy a ba o w' → vW p l e room_1 s m args below meth c D vwCl A Q 7 (cells + 500) (slots + 10000) w' [some (.ref b), some (.ref (a 0 0)), some (.ref (ba 9)), some (.ref o), some (.int (nI i)), none, none] 3456 []) : vW p l e room_1 s m args below meth c D vwCl A Q 7 cells slots w [some (.ref b), some (.ref (a 0 0)), some (.ref (ba 9)), some (.ref o), some (.int (nI i)), none, none] 1563 [] := by
  have hX := hT.1.1
  obtain ⟨f, r, hf, hq, kn, ra, th, sm, n, v, hC, hB, hM, rfl⟩ := hJ
  refine r_aload_n C dL_law_1563 rfl ?_
  refine r_aload_n C dL_law_1564 rfl ?_
  refine r_iload C dL_law_1565 rfl ?_
  refine r_iconst (v := nI 1) C dL_law_1567 (by decide) ?_
  refine r_iaddN C dL_law_1568 ?_
  refine r_sld C hx hbl hbA (show i + 1 < L by omega) (by omega) dL_law_1569 ?_
  refine r_aload_n C dL_law_1570 rfl ?_
  refine r_iload C dL_law_1571 rfl ?_
  refine r_iconst (v := nI 2) C dL_law_1573 (by decide) ?_
  refine r_iaddN C dL_law_1574 ?_
  refine r_sld C hx hbl hbA (show i + 2 < L by omega) (by omega) dL_law_1575 ?_
  refine r_aload_n C dL_law_1576 rfl ?_
  refine c_SH (st := []) hX.1.stb C hE (W_removeAll hX.1 hN hC hB hM (P_removeAll hX hl hC hB hM (xs (i + 1)) (xs (i + 2)))) pk_L_removeAll qm_L_242 rfl rfl (Nat.le_of_ble_eq_true rfl) dL_law_1577 ⟨(Nat.le_of_ble_eq_true rfl), (Nat.le_of_ble_eq_true rfl)⟩ ⟨show cells + 1 ≤ room_1.cells by omega, show slots + 6 ≤ room_1.slots by omega⟩ (fun v9 w9 h9 => ?_) (fun _ h9 => h9.elim)
  obtain ⟨f', r', k, n1, rfl, rfl, hf', hq', n2, hC', hB', hM', hk0, hk4, h2⟩ := h9
  refine r_istore C dL_law_1580 (by decide) rfl ?_
  refine r_aload_n C dL_law_1582 rfl ?_
  refine r_aload_n C dL_law_1583 rfl ?_
  refine r_iload C dL_law_1584 rfl ?_
  refine r_iconst (v := nI 1) C dL_law_1586 (by decide) ?_
  refine r_iaddN C dL_law_1587 ?_
  refine r_sld C hx hbl hbA (show i + 1 < L by omega) (by omega) dL_law_1588 ?_
  refine r_aload_n C dL_law_1589 rfl ?_
  refine r_iload C dL_law_1590 rfl ?_
  refine r_iconst (v := nI 2) C dL_law_1592 (by decide) ?_
  refine r_iaddN C dL_law_1593 ?_
  refine r_sld C hx hbl hbA (show i + 2 < L by omega) (by omega) dL_law_1594 ?_
  refine t_swap3 ?_
  refine c_V (st := []) hX.1.stb C hE (h2 _) pk_X4_removeAll qm_L_244 0 8 rfl rfl wm_0 rfl rfl (Nat.le_of_ble_eq_true rfl) dL_law_1595 ⟨(Nat.le_of_ble_eq_true rfl), (Nat.le_of_ble_eq_true rfl)⟩ ⟨show cells + 1 + 20 ≤ room_1.cells by omega, show slots + 6 + 190 ≤ room_1.slots by omega⟩ (fun v9 w9 h9 => ?_) (fun _ h9 => h9.elim)
  obtain ⟨ra9, rfl, rfl⟩ := h9
  refine r_istore C dL_law_1598 (by decide) rfl ?_
  refine r_aload_n C dL_law_1600 rfl ?_
  refine d_V (st := []) hX.1.stb C hE (D_thrown hX) pk_X4_thrown qm_L_181 0 8 rfl rfl wm_0 rfl rfl (Nat.le_of_ble_eq_true rfl) dL_law_1601 ⟨(Nat.le_of_ble_eq_true rfl), (Nat.le_of_ble_eq_true rfl)⟩ ⟨show cells + 1 + 20 + 0 ≤ room_1.cells by omega, show slots + 6 + 190 + 0 ≤ room_1.slots by omega⟩ ?_
  refine r_iload C dL_law_1604 rfl ?_
  refine r_ic_eq (tgt := 1611) C dL_law_1606 (by decide) (fun _ => ?_) (fun hne => absurd rfl hne)
  refine t_swap3 ?_
  refine r_iload C dL_law_1611 rfl ?_
  refine r_ifN_ne (a := k) (tgt := 1629) C (by omega) dL_law_1613 (by decide) (fun hk => ?_) (fun hk => ?_)
  · skip
    refine r_goto (tgt := 3456) C dL_law_1629 (by decide) ?_
    refine r_widen (k := cells + 500) (n := slots + 10000) (show cells + 1 + 20 + 0 ≤ cells + 500 by omega) (show slots + 6 + 190 + 0 ≤ slots + 10000 by omega) ?_
    refine r_drop 5 ?_
    refine r_drop 6 ?_
    exact kk _ ⟨f', r', hf', hq', kn, ra9, _, sm, _, _, hC', hB', hM', rfl⟩
  · subst hk
    have e1 := hk0 rfl
    subst e1
    refine r_aload_n C dL_law_1616 rfl ?_
    refine g_getN hX.1 C hE qu_X3 (ci := 7) rfl 38 outo_at 0 (by decide) qn_L_13 rfl rfl dL_law_1617 ?_
    refine r_iload C dL_law_1620 rfl ?_
    refine r_i2l C dL_law_1622 ?_
    refine r_lcmpE C dL_law_1623 ?_
    refine r_if_eq (tgt := 1629) C dL_law_1624 (by decide) (fun _ => ?_) (fun hne => absurd rfl hne)
    refine r_goto (tgt := 3456) C dL_law_1629 (by decide) ?_
    refine r_widen (k := cells + 500) (n := slots + 10000) (show cells + 1 + 20 + 0 ≤ cells + 500 by omega) (show slots + 6 + 190 + 0 ≤ slots + 10000 by omega) ?_
    refine r_drop 5 ?_
    refine r_drop 6 ?_
    exact kk _ ⟨f', r', hf', hq', kn, ra9, _, sm, _, _, hC', hB', hM', rfl⟩
theorem S_retainAll {p : Program} {l : Launch} {e : Env} {s : State} {m : MethodId} {args : Array Value} {below : List Frame} {meth : Method} {c : Code} {D : va_G} {cy : Nat → ClassId} {A : Nat → Prop} {Q : State → Prop} {X : (Nat → Prop) → State → Heap → Prop} {aK aV : Nat → Nat} {tO tT : Nat} {gO gT : Nat → Int32} {a : Nat → Nat → Nat} {ba : Nat → Nat} {o b L i cells slots : Nat} {xs : Nat → Int32} {w : va_W} (C : Fg p s m args meth c cL_law 7 RL D cy A) (hE : X A s s.heap) (hT : EnvT X cy aK aV tO tT gO gT) (hN : EnvN X) (hl : l.stackTraces = false) (hx : va_X b L xs s s.heap) (hbl : b < s.heap.size) (hbA : ¬ A b) (hi : i + 5 ≤ L) (hL : L ≤ 2560) (hc : cells + 500 ≤ room_1.cells) (hs : slots + 10000 ≤ room_1.slots) (hJ : JW cy a ba o w) (kk : ∀ w' : va_W, JW cy a ba o w' → vW p l e room_1 s m args below meth c D vwCl A Q 7 (cells + 500) (slots + 10000) w' [some (.ref b), some (.ref (a 0 0)), some (.ref (ba 9)), some (.ref o), some (.int (nI i)), none, none] 3456 []) : vW p l e room_1 s m args below meth c D vwCl A Q 7 cells slots w [some (.ref b), some (.ref (a 0 0)), some (.ref (ba 9)), some (.ref o), some (.int (nI i)), none, none] 1632 [] := by
  have hX := hT.1.1
  obtain ⟨f, r, hf, hq, kn, ra, th, sm, n, v, hC, hB, hM, rfl⟩ := hJ
  refine r_aload_n C dL_law_1632 rfl ?_
  refine r_aload_n C dL_law_1633 rfl ?_
  refine r_iload C dL_law_1634 rfl ?_
  refine r_iconst (v := nI 1) C dL_law_1636 (by decide) ?_
  refine r_iaddN C dL_law_1637 ?_
  refine r_sld C hx hbl hbA (show i + 1 < L by omega) (by omega) dL_law_1638 ?_
  refine r_aload_n C dL_law_1639 rfl ?_
  refine r_iload C dL_law_1640 rfl ?_
  refine r_iconst (v := nI 2) C dL_law_1642 (by decide) ?_
  refine r_iaddN C dL_law_1643 ?_
  refine r_sld C hx hbl hbA (show i + 2 < L by omega) (by omega) dL_law_1644 ?_
  refine r_aload_n C dL_law_1645 rfl ?_
  refine c_SH (st := []) hX.1.stb C hE (W_retainAll hX.1 hN hC hB hM (P_retainAll hX hl hC hB hM (xs (i + 1)) (xs (i + 2)))) pk_L_retainAll qm_L_245 rfl rfl (Nat.le_of_ble_eq_true rfl) dL_law_1646 ⟨(Nat.le_of_ble_eq_true rfl), (Nat.le_of_ble_eq_true rfl)⟩ ⟨show cells + 1 ≤ room_1.cells by omega, show slots + 6 ≤ room_1.slots by omega⟩ (fun v9 w9 h9 => ?_) (fun _ h9 => h9.elim)
  obtain ⟨f', r', k, n1, rfl, rfl, hf', hq', n2, hC', hB', hM', hk0, hk4, h2⟩ := h9
  refine r_istore C dL_law_1649 (by decide) rfl ?_
  refine r_aload_n C dL_law_1651 rfl ?_
  refine r_aload_n C dL_law_1652 rfl ?_
  refine r_iload C dL_law_1653 rfl ?_
  refine r_iconst (v := nI 1) C dL_law_1655 (by decide) ?_
  refine r_iaddN C dL_law_1656 ?_
  refine r_sld C hx hbl hbA (show i + 1 < L by omega) (by omega) dL_law_1657 ?_
  refine r_aload_n C dL_law_1658 rfl ?_
  refine r_iload C dL_law_1659 rfl ?_
  refine r_iconst (v := nI 2) C dL_law_1661 (by decide) ?_
  refine r_iaddN C dL_law_1662 ?_
  refine r_sld C hx hbl hbA (show i + 2 < L by omega) (by omega) dL_law_1663 ?_
  refine t_swap3 ?_
  refine c_V (st := []) hX.1.stb C hE (h2 _) pk_X4_retainAll qm_L_247 0 8 rfl rfl wm_0 rfl rfl (Nat.le_of_ble_eq_true rfl) dL_law_1664 ⟨(Nat.le_of_ble_eq_true rfl), (Nat.le_of_ble_eq_true rfl)⟩ ⟨show cells + 1 + 20 ≤ room_1.cells by omega, show slots + 6 + 190 ≤ room_1.slots by omega⟩ (fun v9 w9 h9 => ?_) (fun _ h9 => h9.elim)
  obtain ⟨ra9, rfl, rfl⟩ := h9
  refine r_istore C dL_law_1667 (by decide) rfl ?_
  refine r_aload_n C dL_law_1669 rfl ?_
  refine d_V (st := []) hX.1.stb C hE (D_thrown hX) pk_X4_thrown qm_L_181 0 8 rfl rfl wm_0 rfl rfl (Nat.le_of_ble_eq_true rfl) dL_law_1670 ⟨(Nat.le_of_ble_eq_true rfl), (Nat.le_of_ble_eq_true rfl)⟩ ⟨show cells + 1 + 20 + 0 ≤ room_1.cells by omega, show slots + 6 + 190 + 0 ≤ room_1.slots by omega⟩ ?_
  refine r_iload C dL_law_1673 rfl ?_
  refine r_ic_eq (tgt := 1680) C dL_law_1675 (by decide) (fun _ => ?_) (fun hne => absurd rfl hne)
  refine t_swap3 ?_
  refine r_iload C dL_law_1680 rfl ?_
  refine r_ifN_ne (a := k) (tgt := 1698) C (by omega) dL_law_1682 (by decide) (fun hk => ?_) (fun hk => ?_)
  · skip
    refine r_goto (tgt := 3456) C dL_law_1698 (by decide) ?_
    refine r_widen (k := cells + 500) (n := slots + 10000) (show cells + 1 + 20 + 0 ≤ cells + 500 by omega) (show slots + 6 + 190 + 0 ≤ slots + 10000 by omega) ?_
    refine r_drop 5 ?_
    refine r_drop 6 ?_
    exact kk _ ⟨f', r', hf', hq', kn, ra9, _, sm, _, _, hC', hB', hM', rfl⟩
  · subst hk
    have e1 := hk0 rfl
    subst e1
    refine r_aload_n C dL_law_1685 rfl ?_
    refine g_getN hX.1 C hE qu_X3 (ci := 7) rfl 38 outo_at 0 (by decide) qn_L_13 rfl rfl dL_law_1686 ?_
    refine r_iload C dL_law_1689 rfl ?_
    refine r_i2l C dL_law_1691 ?_
    refine r_lcmpE C dL_law_1692 ?_
    refine r_if_eq (tgt := 1698) C dL_law_1693 (by decide) (fun _ => ?_) (fun hne => absurd rfl hne)
    refine r_goto (tgt := 3456) C dL_law_1698 (by decide) ?_
    refine r_widen (k := cells + 500) (n := slots + 10000) (show cells + 1 + 20 + 0 ≤ cells + 500 by omega) (show slots + 6 + 190 + 0 ≤ slots + 10000 by omega) ?_
    refine r_drop 5 ?_
    refine r_drop 6 ?_
    exact kk _ ⟨f', r', hf', hq', kn, ra9, _, sm, _, _, hC', hB', hM', rfl⟩
theorem S_copy {p : Program} {l : Launch} {e : Env} {s : State} {m : MethodId} {args : Array Value} {below : List Frame} {meth : Method} {c : Code} {D : va_G} {cy : Nat → ClassId} {A : Nat → Prop} {Q : State → Prop} {X : (Nat → Prop) → State → Heap → Prop} {aK aV : Nat → Nat} {tO tT : Nat} {gO gT : Nat → Int32} {a : Nat → Nat → Nat} {ba : Nat → Nat} {o b L i cells slots : Nat} {xs : Nat → Int32} {w : va_W} (C : Fg p s m args meth c cL_law 7 RL D cy A) (hE : X A s s.heap) (hT : EnvT X cy aK aV tO tT gO gT) (hN : EnvN X) (hl : l.stackTraces = false) (hx : va_X b L xs s s.heap) (hbl : b < s.heap.size) (hbA : ¬ A b) (hi : i + 5 ≤ L) (hL : L ≤ 2560) (hc : cells + 500 ≤ room_1.cells) (hs : slots + 10000 ≤ room_1.slots) (hJ : JW cy a ba o w) (kk : ∀ w' : va_W, JW cy a ba o w' → vW p l e room_1 s m args below meth c D vwCl A Q 7 (cells + 500) (slots + 10000) w' [some (.ref b), some (.ref (a 0 0)), some (.ref (ba 9)), some (.ref o), some (.int (nI i)), none, none] 3456 []) : vW p l e room_1 s m args below meth c D vwCl A Q 7 cells slots w [some (.ref b), some (.ref (a 0 0)), some (.ref (ba 9)), some (.ref o), some (.int (nI i)), none, none] 1701 [] := by
  have hX := hT.1.1
  obtain ⟨f, r, hf, hq, kn, ra, th, sm, n, v, hC, hB, hM, rfl⟩ := hJ
  refine r_aload_n C dL_law_1701 rfl ?_
  refine r_aload_n C dL_law_1702 rfl ?_
  refine r_iload C dL_law_1703 rfl ?_
  refine r_iconst (v := nI 1) C dL_law_1705 (by decide) ?_
  refine r_iaddN C dL_law_1706 ?_
  refine r_sld C hx hbl hbA (show i + 1 < L by omega) (by omega) dL_law_1707 ?_
  refine r_aload_n C dL_law_1708 rfl ?_
  refine r_iload C dL_law_1709 rfl ?_
  refine r_iconst (v := nI 2) C dL_law_1711 (by decide) ?_
  refine r_iaddN C dL_law_1712 ?_
  refine r_sld C hx hbl hbA (show i + 2 < L by omega) (by omega) dL_law_1713 ?_
  refine r_aload_n C dL_law_1714 rfl ?_
  refine c_SH (st := []) hX.1.stb C hE (W_copy hX.1 hN hC hB hM (P_copy hX hl hC hB hM (xs (i + 1)) (xs (i + 2)))) pk_L_copy qm_L_248 rfl rfl (Nat.le_of_ble_eq_true rfl) dL_law_1715 ⟨(Nat.le_of_ble_eq_true rfl), (Nat.le_of_ble_eq_true rfl)⟩ ⟨show cells + 1 ≤ room_1.cells by omega, show slots + 6 ≤ room_1.slots by omega⟩ (fun v9 w9 h9 => ?_) (fun _ h9 => h9.elim)
  obtain ⟨f', r', k, n1, rfl, rfl, hf', hq', n2, hC', hB', hM', hk0, hk4, h2⟩ := h9
  refine r_istore C dL_law_1718 (by decide) rfl ?_
  refine r_aload_n C dL_law_1720 rfl ?_
  refine r_aload_n C dL_law_1721 rfl ?_
  refine r_iload C dL_law_1722 rfl ?_
  refine r_iconst (v := nI 1) C dL_law_1724 (by decide) ?_
  refine r_iaddN C dL_law_1725 ?_
  refine r_sld C hx hbl hbA (show i + 1 < L by omega) (by omega) dL_law_1726 ?_
  refine r_aload_n C dL_law_1727 rfl ?_
  refine r_iload C dL_law_1728 rfl ?_
  refine r_iconst (v := nI 2) C dL_law_1730 (by decide) ?_
  refine r_iaddN C dL_law_1731 ?_
  refine r_sld C hx hbl hbA (show i + 2 < L by omega) (by omega) dL_law_1732 ?_
  refine t_swap3 ?_
  refine c_V (st := []) hX.1.stb C hE (h2 _) pk_X4_copy qm_L_250 0 8 rfl rfl wm_0 rfl rfl (Nat.le_of_ble_eq_true rfl) dL_law_1733 ⟨(Nat.le_of_ble_eq_true rfl), (Nat.le_of_ble_eq_true rfl)⟩ ⟨show cells + 1 + 4 ≤ room_1.cells by omega, show slots + 6 + 48 ≤ room_1.slots by omega⟩ (fun v9 w9 h9 => ?_) (fun _ h9 => h9.elim)
  obtain ⟨ra9, rfl, rfl⟩ := h9
  refine r_istore C dL_law_1736 (by decide) rfl ?_
  refine r_aload_n C dL_law_1738 rfl ?_
  refine d_V (st := []) hX.1.stb C hE (D_thrown hX) pk_X4_thrown qm_L_181 0 8 rfl rfl wm_0 rfl rfl (Nat.le_of_ble_eq_true rfl) dL_law_1739 ⟨(Nat.le_of_ble_eq_true rfl), (Nat.le_of_ble_eq_true rfl)⟩ ⟨show cells + 1 + 4 + 0 ≤ room_1.cells by omega, show slots + 6 + 48 + 0 ≤ room_1.slots by omega⟩ ?_
  refine r_iload C dL_law_1742 rfl ?_
  refine r_ic_eq (tgt := 1749) C dL_law_1744 (by decide) (fun _ => ?_) (fun hne => absurd rfl hne)
  refine t_swap3 ?_
  refine r_iload C dL_law_1749 rfl ?_
  refine r_ifN_ne (a := k) (tgt := 1767) C (by omega) dL_law_1751 (by decide) (fun hk => ?_) (fun hk => ?_)
  · skip
    refine r_goto (tgt := 3456) C dL_law_1767 (by decide) ?_
    refine r_widen (k := cells + 500) (n := slots + 10000) (show cells + 1 + 4 + 0 ≤ cells + 500 by omega) (show slots + 6 + 48 + 0 ≤ slots + 10000 by omega) ?_
    refine r_drop 5 ?_
    refine r_drop 6 ?_
    exact kk _ ⟨f', r', hf', hq', kn, ra9, _, sm, _, _, hC', hB', hM', rfl⟩
  · subst hk
    have e1 := hk0 rfl
    subst e1
    refine r_aload_n C dL_law_1754 rfl ?_
    refine g_getN hX.1 C hE qu_X3 (ci := 7) rfl 38 outo_at 0 (by decide) qn_L_13 rfl rfl dL_law_1755 ?_
    refine r_iload C dL_law_1758 rfl ?_
    refine r_i2l C dL_law_1760 ?_
    refine r_lcmpE C dL_law_1761 ?_
    refine r_if_eq (tgt := 1767) C dL_law_1762 (by decide) (fun _ => ?_) (fun hne => absurd rfl hne)
    refine r_goto (tgt := 3456) C dL_law_1767 (by decide) ?_
    refine r_widen (k := cells + 500) (n := slots + 10000) (show cells + 1 + 4 + 0 ≤ cells + 500 by omega) (show slots + 6 + 48 + 0 ≤ slots + 10000 by omega) ?_
    refine r_drop 5 ?_
    refine r_drop 6 ?_
    exact kk _ ⟨f', r', hf', hq', kn, ra9, _, sm, _, _, hC', hB', hM', rfl⟩
theorem S_places {p : Program} {l : Launch} {e : Env} {s : State} {m : MethodId} {args : Array Value} {below : List Frame} {meth : Method} {c : Code} {D : va_G} {cy : Nat → ClassId} {A : Nat → Prop} {Q : State → Prop} {X : (Nat → Prop) → State → Heap → Prop} {aK aV : Nat → Nat} {tO tT : Nat} {gO gT : Nat → Int32} {a : Nat → Nat → Nat} {ba : Nat → Nat} {o b L i cells slots : Nat} {xs : Nat → Int32} {w : va_W} (C : Fg p s m args meth c cL_law 7 RL D cy A) (hE : X A s s.heap) (hT : EnvT X cy aK aV tO tT gO gT) (hN : EnvN X) (hl : l.stackTraces = false) (hx : va_X b L xs s s.heap) (hbl : b < s.heap.size) (hbA : ¬ A b) (hi : i + 5 ≤ L) (hL : L ≤ 2560) (hc : cells + 500 ≤ room_1.cells) (hs : slots + 10000 ≤ room_1.slots) (hJ : JW cy a ba o w) (kk : ∀ w' : va_W, JW cy a ba o w' → vW p l e room_1 s m args below meth c D vwCl A Q 7 (cells + 500) (slots + 10000) w' [some (.ref b), some (.ref (a 0 0)), some (.ref (ba 9)), some (.ref o), some (.int (nI i)), none, none] 3456 []) : vW p l e room_1 s m args below meth c D vwCl A Q 7 cells slots w [some (.ref b), some (.ref (a 0 0)), some (.ref (ba 9)), some (.ref o), some (.int (nI i)), none, none] 1770 [] := by
  have hX := hT.1.1
  obtain ⟨f, r, hf, hq, kn, ra, th, sm, n, v, hC, hB, hM, rfl⟩ := hJ
  refine r_aload_n C dL_law_1770 rfl ?_
  refine r_aload_n C dL_law_1771 rfl ?_
  refine r_iload C dL_law_1772 rfl ?_
  refine r_iconst (v := nI 1) C dL_law_1774 (by decide) ?_
  refine r_iaddN C dL_law_1775 ?_
  refine r_sld C hx hbl hbA (show i + 1 < L by omega) (by omega) dL_law_1776 ?_
  refine r_aload_n C dL_law_1777 rfl ?_
  refine r_iload C dL_law_1778 rfl ?_
  refine r_iconst (v := nI 2) C dL_law_1780 (by decide) ?_
  refine r_iaddN C dL_law_1781 ?_
  refine r_sld C hx hbl hbA (show i + 2 < L by omega) (by omega) dL_law_1782 ?_
  refine r_aload_n C dL_law_1783 rfl ?_
  refine c_SH (st := []) hX.1.stb C hE (W_places hX.1 hN hC hB hM (P_places hX hl hC hB hM (xs (i + 1)) (xs (i + 2)))) pk_L_places qm_L_251 rfl rfl (Nat.le_of_ble_eq_true rfl) dL_law_1784 ⟨(Nat.le_of_ble_eq_true rfl), (Nat.le_of_ble_eq_true rfl)⟩ ⟨show cells + 1 ≤ room_1.cells by omega, show slots + 6 ≤ room_1.slots by omega⟩ (fun v9 w9 h9 => ?_) (fun _ h9 => h9.elim)
  obtain ⟨f', r', k, n1, rfl, rfl, hf', hq', n2, hC', hB', hM', hk0, hk4, h2⟩ := h9
  refine r_istore C dL_law_1787 (by decide) rfl ?_
  refine r_aload_n C dL_law_1789 rfl ?_
  refine r_aload_n C dL_law_1790 rfl ?_
  refine r_iload C dL_law_1791 rfl ?_
  refine r_iconst (v := nI 1) C dL_law_1793 (by decide) ?_
  refine r_iaddN C dL_law_1794 ?_
  refine r_sld C hx hbl hbA (show i + 1 < L by omega) (by omega) dL_law_1795 ?_
  refine r_aload_n C dL_law_1796 rfl ?_
  refine r_iload C dL_law_1797 rfl ?_
  refine r_iconst (v := nI 2) C dL_law_1799 (by decide) ?_
  refine r_iaddN C dL_law_1800 ?_
  refine r_sld C hx hbl hbA (show i + 2 < L by omega) (by omega) dL_law_1801 ?_
  refine t_swap3 ?_
  refine c_V (st := []) hX.1.stb C hE (h2 _) pk_X4_places qm_L_253 0 8 rfl rfl wm_0 rfl rfl (Nat.le_of_ble_eq_true rfl) dL_law_1802 ⟨(Nat.le_of_ble_eq_true rfl), (Nat.le_of_ble_eq_true rfl)⟩ ⟨show cells + 1 + 4 ≤ room_1.cells by omega, show slots + 6 + 48 ≤ room_1.slots by omega⟩ (fun v9 w9 h9 => ?_) (fun _ h9 => h9.elim)
  obtain ⟨ra9, rfl, rfl⟩ := h9
  refine r_istore C dL_law_1805 (by decide) rfl ?_
  refine r_aload_n C dL_law_1807 rfl ?_
  refine d_V (st := []) hX.1.stb C hE (D_thrown hX) pk_X4_thrown qm_L_181 0 8 rfl rfl wm_0 rfl rfl (Nat.le_of_ble_eq_true rfl) dL_law_1808 ⟨(Nat.le_of_ble_eq_true rfl), (Nat.le_of_ble_eq_true rfl)⟩ ⟨show cells + 1 + 4 + 0 ≤ room_1.cells by omega, show slots + 6 + 48 + 0 ≤ room_1.slots by omega⟩ ?_
  refine r_iload C dL_law_1811 rfl ?_
  refine r_ic_eq (tgt := 1818) C dL_law_1813 (by decide) (fun _ => ?_) (fun hne => absurd rfl hne)
  refine t_swap3 ?_
  refine r_iload C dL_law_1818 rfl ?_
  refine r_ifN_ne (a := k) (tgt := 1836) C (by omega) dL_law_1820 (by decide) (fun hk => ?_) (fun hk => ?_)
  · skip
    refine r_goto (tgt := 3456) C dL_law_1836 (by decide) ?_
    refine r_widen (k := cells + 500) (n := slots + 10000) (show cells + 1 + 4 + 0 ≤ cells + 500 by omega) (show slots + 6 + 48 + 0 ≤ slots + 10000 by omega) ?_
    refine r_drop 5 ?_
    refine r_drop 6 ?_
    exact kk _ ⟨f', r', hf', hq', kn, ra9, _, sm, _, _, hC', hB', hM', rfl⟩
  · subst hk
    have e1 := hk0 rfl
    subst e1
    refine r_aload_n C dL_law_1823 rfl ?_
    refine g_getN hX.1 C hE qu_X3 (ci := 7) rfl 38 outo_at 0 (by decide) qn_L_13 rfl rfl dL_law_1824 ?_
    refine r_iload C dL_law_1827 rfl ?_
    refine r_i2l C dL_law_1829 ?_
    refine r_lcmpE C dL_law_1830 ?_
    refine r_if_eq (tgt := 1836) C dL_law_1831 (by decide) (fun _ => ?_) (fun hne => absurd rfl hne)
    refine r_goto (tgt := 3456) C dL_law_1836 (by decide) ?_
    refine r_widen (k := cells + 500) (n := slots + 10000) (show cells + 1 + 4 + 0 ≤ cells + 500 by omega) (show slots + 6 + 48 + 0 ≤ slots + 10000 by omega) ?_
    refine r_drop 5 ?_
    refine r_drop 6 ?_
    exact kk _ ⟨f', r', hf', hq', kn, ra9, _, sm, _, _, hC', hB', hM', rfl⟩
theorem S_through {p : Program} {l : Launch} {e : Env} {s : State} {m : MethodId} {args : Array Value} {below : List Frame} {meth : Method} {c : Code} {D : va_G} {cy : Nat → ClassId} {A : Nat → Prop} {Q : State → Prop} {X : (Nat → Prop) → State → Heap → Prop} {aK aV : Nat → Nat} {tO tT : Nat} {gO gT : Nat → Int32} {a : Nat → Nat → Nat} {ba : Nat → Nat} {o b L i cells slots : Nat} {xs : Nat → Int32} {w : va_W} (C : Fg p s m args meth c cL_law 7 RL D cy A) (hE : X A s s.heap) (hT : EnvT X cy aK aV tO tT gO gT) (hN : EnvN X) (hl : l.stackTraces = false) (hx : va_X b L xs s s.heap) (hbl : b < s.heap.size) (hbA : ¬ A b) (hi : i + 5 ≤ L) (hL : L ≤ 2560) (hc : cells + 500 ≤ room_1.cells) (hs : slots + 10000 ≤ room_1.slots) (hJ : JW cy a ba o w) (kk : ∀ w' : va_W, JW cy a ba o w' → vW p l e room_1 s m args below meth c D vwCl A Q 7 (cells + 500) (slots + 10000) w' [some (.ref b), some (.ref (a 0 0)), some (.ref (ba 9)), some (.ref o), some (.int (nI i)), none, none] 3456 []) : vW p l e room_1 s m args below meth c D vwCl A Q 7 cells slots w [some (.ref b), some (.ref (a 0 0)), some (.ref (ba 9)), some (.ref o), some (.int (nI i)), none, none] 1839 [] := by
  have hX := hT.1.1
  obtain ⟨f, r, hf, hq, kn, ra, th, sm, n, v, hC, hB, hM, rfl⟩ := hJ
  refine r_aload_n C dL_law_1839 rfl ?_
  refine r_aload_n C dL_law_1840 rfl ?_
  refine r_iload C dL_law_1841 rfl ?_
  refine r_iconst (v := nI 1) C dL_law_1843 (by decide) ?_
  refine r_iaddN C dL_law_1844 ?_
  refine r_sld C hx hbl hbA (show i + 1 < L by omega) (by omega) dL_law_1845 ?_
  refine r_aload_n C dL_law_1846 rfl ?_
  refine r_iload C dL_law_1847 rfl ?_
  refine r_iconst (v := nI 2) C dL_law_1849 (by decide) ?_
  refine r_iaddN C dL_law_1850 ?_
  refine r_sld C hx hbl hbA (show i + 2 < L by omega) (by omega) dL_law_1851 ?_
  refine r_aload_n C dL_law_1852 rfl ?_
  refine r_iload C dL_law_1853 rfl ?_
  refine r_iconst (v := nI 3) C dL_law_1855 (by decide) ?_
  refine r_iaddN C dL_law_1856 ?_
  refine r_sld C hx hbl hbA (show i + 3 < L by omega) (by omega) dL_law_1857 ?_
  refine r_aload_n C dL_law_1858 rfl ?_
  refine c_SH (st := []) hX.1.stb C hE (W_through hX.1 hN hC hB hM (P_through hX hl hC hB hM (xs (i + 1)) (xs (i + 2)) (xs (i + 3)))) pk_L_through qm_L_254 rfl rfl (Nat.le_of_ble_eq_true rfl) dL_law_1859 ⟨(Nat.le_of_ble_eq_true rfl), (Nat.le_of_ble_eq_true rfl)⟩ ⟨show cells + 1 ≤ room_1.cells by omega, show slots + 6 ≤ room_1.slots by omega⟩ (fun v9 w9 h9 => ?_) (fun _ h9 => h9.elim)
  obtain ⟨f', r', k, n1, rfl, rfl, hf', hq', n2, hC', hB', hM', hk0, hk4, h2⟩ := h9
  refine r_istore C dL_law_1862 (by decide) rfl ?_
  refine r_aload_n C dL_law_1864 rfl ?_
  refine r_aload_n C dL_law_1865 rfl ?_
  refine r_iload C dL_law_1866 rfl ?_
  refine r_iconst (v := nI 1) C dL_law_1868 (by decide) ?_
  refine r_iaddN C dL_law_1869 ?_
  refine r_sld C hx hbl hbA (show i + 1 < L by omega) (by omega) dL_law_1870 ?_
  refine r_aload_n C dL_law_1871 rfl ?_
  refine r_iload C dL_law_1872 rfl ?_
  refine r_iconst (v := nI 2) C dL_law_1874 (by decide) ?_
  refine r_iaddN C dL_law_1875 ?_
  refine r_sld C hx hbl hbA (show i + 2 < L by omega) (by omega) dL_law_1876 ?_
  refine r_aload_n C dL_law_1877 rfl ?_
  refine r_iload C dL_law_1878 rfl ?_
  refine r_iconst (v := nI 3) C dL_law_1880 (by decide) ?_
  refine r_iaddN C dL_law_1881 ?_
  refine r_sld C hx hbl hbA (show i + 3 < L by omega) (by omega) dL_law_1882 ?_
  refine t_swap3 ?_
  refine c_V (st := []) hX.1.stb C hE (h2 _) pk_X4_through qm_L_256 0 8 rfl rfl wm_0 rfl rfl (Nat.le_of_ble_eq_true rfl) dL_law_1883 ⟨(Nat.le_of_ble_eq_true rfl), (Nat.le_of_ble_eq_true rfl)⟩ ⟨show cells + 1 + 4 ≤ room_1.cells by omega, show slots + 6 + 48 ≤ room_1.slots by omega⟩ (fun v9 w9 h9 => ?_) (fun _ h9 => h9.elim)
  obtain ⟨ra9, rfl, rfl⟩ := h9
  refine r_istore C dL_law_1886 (by decide) rfl ?_
  refine r_aload_n C dL_law_1888 rfl ?_
  refine d_V (st := []) hX.1.stb C hE (D_thrown hX) pk_X4_thrown qm_L_181 0 8 rfl rfl wm_0 rfl rfl (Nat.le_of_ble_eq_true rfl) dL_law_1889 ⟨(Nat.le_of_ble_eq_true rfl), (Nat.le_of_ble_eq_true rfl)⟩ ⟨show cells + 1 + 4 + 0 ≤ room_1.cells by omega, show slots + 6 + 48 + 0 ≤ room_1.slots by omega⟩ ?_
  refine r_iload C dL_law_1892 rfl ?_
  refine r_ic_eq (tgt := 1899) C dL_law_1894 (by decide) (fun _ => ?_) (fun hne => absurd rfl hne)
  refine t_swap3 ?_
  refine r_iload C dL_law_1899 rfl ?_
  refine r_ifN_ne (a := k) (tgt := 1917) C (by omega) dL_law_1901 (by decide) (fun hk => ?_) (fun hk => ?_)
  · skip
    refine r_goto (tgt := 3456) C dL_law_1917 (by decide) ?_
    refine r_widen (k := cells + 500) (n := slots + 10000) (show cells + 1 + 4 + 0 ≤ cells + 500 by omega) (show slots + 6 + 48 + 0 ≤ slots + 10000 by omega) ?_
    refine r_drop 5 ?_
    refine r_drop 6 ?_
    exact kk _ ⟨f', r', hf', hq', kn, ra9, _, sm, _, _, hC', hB', hM', rfl⟩
  · subst hk
    have e1 := hk0 rfl
    subst e1
    refine r_aload_n C dL_law_1904 rfl ?_
    refine g_getN hX.1 C hE qu_X3 (ci := 7) rfl 38 outo_at 0 (by decide) qn_L_13 rfl rfl dL_law_1905 ?_
    refine r_iload C dL_law_1908 rfl ?_
    refine r_i2l C dL_law_1910 ?_
    refine r_lcmpE C dL_law_1911 ?_
    refine r_if_eq (tgt := 1917) C dL_law_1912 (by decide) (fun _ => ?_) (fun hne => absurd rfl hne)
    refine r_goto (tgt := 3456) C dL_law_1917 (by decide) ?_
    refine r_widen (k := cells + 500) (n := slots + 10000) (show cells + 1 + 4 + 0 ≤ cells + 500 by omega) (show slots + 6 + 48 + 0 ≤ slots + 10000 by omega) ?_
    refine r_drop 5 ?_
    refine r_drop 6 ?_
    exact kk _ ⟨f', r', hf', hq', kn, ra9, _, sm, _, _, hC', hB', hM', rfl⟩

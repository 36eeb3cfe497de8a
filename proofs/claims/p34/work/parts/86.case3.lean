/-! THE LAW'S CASES, 3 -/
theorem dL_law_1224 : decode cL_law 1224 = .ok (.aload_n 1, 1) := dqo_43 (kb_19 8 rfl)
theorem dL_law_1225 : decode cL_law 1225 = .ok (.aload_n 0, 1) := dqo_42 (kb_19 9 rfl)
theorem dL_law_1226 : decode cL_law 1226 = .ok (.iload 4, 2) := dqo_21 4 (kb_19 10 rfl) (kb_19 11 rfl)
theorem dL_law_1228 : decode cL_law 1228 = .ok (.iconst 1, 1) := dqo_4 (kb_19 12 rfl)
theorem dL_law_1229 : decode cL_law 1229 = .ok (.iadd, 1) := dqo_96 (kb_19 13 rfl)
theorem dL_law_1230 : decode cL_law 1230 = .ok (.iaload, 1) := dqo_46 (kb_19 14 rfl)
theorem dL_law_1231 : decode cL_law 1231 = .ok (.aload_n 0, 1) := dqo_42 (kb_19 15 rfl)
theorem dL_law_1232 : decode cL_law 1232 = .ok (.iload 4, 2) := dqo_21 4 (kb_19 16 rfl) (kb_19 17 rfl)
theorem dL_law_1234 : decode cL_law 1234 = .ok (.iconst 2, 1) := dqo_5 (kb_19 18 rfl)
theorem dL_law_1235 : decode cL_law 1235 = .ok (.iadd, 1) := dqo_96 (kb_19 19 rfl)
theorem dL_law_1236 : decode cL_law 1236 = .ok (.iaload, 1) := dqo_46 (kb_19 20 rfl)
theorem dL_law_1237 : decode cL_law 1237 = .ok (.aload_n 3, 1) := dqo_45 (kb_19 21 rfl)
theorem dL_law_1238 : decode cL_law 1238 = .ok (.invokestatic 253, 3) := dqo_184 0 253 (kb_19 22 rfl) (kb_19 23 rfl) (kb_19 24 rfl)
theorem dL_law_1241 : decode cL_law 1241 = .ok (.istore 5, 2) := dqo_54 5 (kb_19 25 rfl) (kb_19 26 rfl)
theorem dL_law_1243 : decode cL_law 1243 = .ok (.aload_n 2, 1) := dqo_44 (kb_19 27 rfl)
theorem dL_law_1244 : decode cL_law 1244 = .ok (.aload_n 0, 1) := dqo_42 (kb_19 28 rfl)
theorem dL_law_1245 : decode cL_law 1245 = .ok (.iload 4, 2) := dqo_21 4 (kb_19 29 rfl) (kb_19 30 rfl)
theorem dL_law_1247 : decode cL_law 1247 = .ok (.iconst 1, 1) := dqo_4 (kb_19 31 rfl)
theorem dL_law_1248 : decode cL_law 1248 = .ok (.iadd, 1) := dqo_96 (kb_19 32 rfl)
theorem dL_law_1249 : decode cL_law 1249 = .ok (.iaload, 1) := dqo_46 (kb_19 33 rfl)
theorem dL_law_1250 : decode cL_law 1250 = .ok (.aload_n 0, 1) := dqo_42 (kb_19 34 rfl)
theorem dL_law_1251 : decode cL_law 1251 = .ok (.iload 4, 2) := dqo_21 4 (kb_19 35 rfl) (kb_19 36 rfl)
theorem dL_law_1253 : decode cL_law 1253 = .ok (.iconst 2, 1) := dqo_5 (kb_19 37 rfl)
theorem dL_law_1254 : decode cL_law 1254 = .ok (.iadd, 1) := dqo_96 (kb_19 38 rfl)
theorem dL_law_1255 : decode cL_law 1255 = .ok (.iaload, 1) := dqo_46 (kb_19 39 rfl)
theorem dL_law_1256 : decode cL_law 1256 = .ok (.invokevirtual 255, 3) := dqo_182 0 255 (kb_19 40 rfl) (kb_19 41 rfl) (kb_19 42 rfl)
theorem dL_law_1259 : decode cL_law 1259 = .ok (.istore 6, 2) := dqo_54 6 (kb_19 43 rfl) (kb_19 44 rfl)
theorem dL_law_1261 : decode cL_law 1261 = .ok (.goto 868, 3) := dqo_167 3 100 (by decide) (kb_19 45 rfl) (kb_19 46 rfl) (kb_19 47 rfl)
theorem dL_law_1264 : decode cL_law 1264 = .ok (.aload_n 1, 1) := dqo_43 (kb_19 48 rfl)
theorem dL_law_1265 : decode cL_law 1265 = .ok (.aload_n 0, 1) := dqo_42 (kb_19 49 rfl)
theorem dL_law_1266 : decode cL_law 1266 = .ok (.iload 4, 2) := dqo_21 4 (kb_19 50 rfl) (kb_19 51 rfl)
theorem dL_law_1268 : decode cL_law 1268 = .ok (.iconst 1, 1) := dqo_4 (kb_19 52 rfl)
theorem dL_law_1269 : decode cL_law 1269 = .ok (.iadd, 1) := dqo_96 (kb_19 53 rfl)
theorem dL_law_1270 : decode cL_law 1270 = .ok (.iaload, 1) := dqo_46 (kb_19 54 rfl)
theorem dL_law_1271 : decode cL_law 1271 = .ok (.aload_n 0, 1) := dqo_42 (kb_19 55 rfl)
theorem dL_law_1272 : decode cL_law 1272 = .ok (.iload 4, 2) := dqo_21 4 (kb_19 56 rfl) (kb_19 57 rfl)
theorem dL_law_1274 : decode cL_law 1274 = .ok (.iconst 2, 1) := dqo_5 (kb_19 58 rfl)
theorem dL_law_1275 : decode cL_law 1275 = .ok (.iadd, 1) := dqo_96 (kb_19 59 rfl)
theorem dL_law_1276 : decode cL_law 1276 = .ok (.iaload, 1) := dqo_46 (kb_19 60 rfl)
theorem dL_law_1277 : decode cL_law 1277 = .ok (.aload_n 3, 1) := dqo_45 (kb_19 61 rfl)
theorem dL_law_1278 : decode cL_law 1278 = .ok (.invokestatic 256, 3) := dqo_184 1 0 (kb_19 62 rfl) (kb_19 63 rfl) (kb_20 0 rfl)
theorem dL_law_1281 : decode cL_law 1281 = .ok (.istore 5, 2) := dqo_54 5 (kb_20 1 rfl) (kb_20 2 rfl)
theorem dL_law_1283 : decode cL_law 1283 = .ok (.aload_n 2, 1) := dqo_44 (kb_20 3 rfl)
theorem dL_law_1284 : decode cL_law 1284 = .ok (.aload_n 0, 1) := dqo_42 (kb_20 4 rfl)
theorem dL_law_1285 : decode cL_law 1285 = .ok (.iload 4, 2) := dqo_21 4 (kb_20 5 rfl) (kb_20 6 rfl)
theorem dL_law_1287 : decode cL_law 1287 = .ok (.iconst 1, 1) := dqo_4 (kb_20 7 rfl)
theorem dL_law_1288 : decode cL_law 1288 = .ok (.iadd, 1) := dqo_96 (kb_20 8 rfl)
theorem dL_law_1289 : decode cL_law 1289 = .ok (.iaload, 1) := dqo_46 (kb_20 9 rfl)
theorem dL_law_1290 : decode cL_law 1290 = .ok (.aload_n 0, 1) := dqo_42 (kb_20 10 rfl)
theorem dL_law_1291 : decode cL_law 1291 = .ok (.iload 4, 2) := dqo_21 4 (kb_20 11 rfl) (kb_20 12 rfl)
theorem dL_law_1293 : decode cL_law 1293 = .ok (.iconst 2, 1) := dqo_5 (kb_20 13 rfl)
theorem dL_law_1294 : decode cL_law 1294 = .ok (.iadd, 1) := dqo_96 (kb_20 14 rfl)
theorem dL_law_1295 : decode cL_law 1295 = .ok (.iaload, 1) := dqo_46 (kb_20 15 rfl)
theorem dL_law_1296 : decode cL_law 1296 = .ok (.invokevirtual 258, 3) := dqo_182 1 2 (kb_20 16 rfl) (kb_20 17 rfl) (kb_20 18 rfl)
theorem dL_law_1299 : decode cL_law 1299 = .ok (.istore 6, 2) := dqo_54 6 (kb_20 19 rfl) (kb_20 20 rfl)
theorem dL_law_1301 : decode cL_law 1301 = .ok (.goto 828, 3) := dqo_167 3 60 (by decide) (kb_20 21 rfl) (kb_20 22 rfl) (kb_20 23 rfl)
theorem dL_law_1304 : decode cL_law 1304 = .ok (.aload_n 1, 1) := dqo_43 (kb_20 24 rfl)
theorem dL_law_1305 : decode cL_law 1305 = .ok (.aload_n 0, 1) := dqo_42 (kb_20 25 rfl)
theorem dL_law_1306 : decode cL_law 1306 = .ok (.iload 4, 2) := dqo_21 4 (kb_20 26 rfl) (kb_20 27 rfl)
theorem dL_law_1308 : decode cL_law 1308 = .ok (.iconst 1, 1) := dqo_4 (kb_20 28 rfl)
theorem dL_law_1309 : decode cL_law 1309 = .ok (.iadd, 1) := dqo_96 (kb_20 29 rfl)
theorem dL_law_1310 : decode cL_law 1310 = .ok (.iaload, 1) := dqo_46 (kb_20 30 rfl)
theorem dL_law_1311 : decode cL_law 1311 = .ok (.aload_n 0, 1) := dqo_42 (kb_20 31 rfl)
theorem dL_law_1312 : decode cL_law 1312 = .ok (.iload 4, 2) := dqo_21 4 (kb_20 32 rfl) (kb_20 33 rfl)
theorem dL_law_1314 : decode cL_law 1314 = .ok (.iconst 2, 1) := dqo_5 (kb_20 34 rfl)
theorem dL_law_1315 : decode cL_law 1315 = .ok (.iadd, 1) := dqo_96 (kb_20 35 rfl)
theorem dL_law_1316 : decode cL_law 1316 = .ok (.iaload, 1) := dqo_46 (kb_20 36 rfl)
theorem dL_law_1317 : decode cL_law 1317 = .ok (.aload_n 3, 1) := dqo_45 (kb_20 37 rfl)
theorem dL_law_1318 : decode cL_law 1318 = .ok (.invokestatic 259, 3) := dqo_184 1 3 (kb_20 38 rfl) (kb_20 39 rfl) (kb_20 40 rfl)
theorem dL_law_1321 : decode cL_law 1321 = .ok (.istore 5, 2) := dqo_54 5 (kb_20 41 rfl) (kb_20 42 rfl)
theorem dL_law_1323 : decode cL_law 1323 = .ok (.aload_n 2, 1) := dqo_44 (kb_20 43 rfl)
theorem dL_law_1324 : decode cL_law 1324 = .ok (.aload_n 0, 1) := dqo_42 (kb_20 44 rfl)
theorem dL_law_1325 : decode cL_law 1325 = .ok (.iload 4, 2) := dqo_21 4 (kb_20 45 rfl) (kb_20 46 rfl)
theorem dL_law_1327 : decode cL_law 1327 = .ok (.iconst 1, 1) := dqo_4 (kb_20 47 rfl)
theorem dL_law_1328 : decode cL_law 1328 = .ok (.iadd, 1) := dqo_96 (kb_20 48 rfl)
theorem dL_law_1329 : decode cL_law 1329 = .ok (.iaload, 1) := dqo_46 (kb_20 49 rfl)
theorem dL_law_1330 : decode cL_law 1330 = .ok (.aload_n 0, 1) := dqo_42 (kb_20 50 rfl)
theorem dL_law_1331 : decode cL_law 1331 = .ok (.iload 4, 2) := dqo_21 4 (kb_20 51 rfl) (kb_20 52 rfl)
theorem dL_law_1333 : decode cL_law 1333 = .ok (.iconst 2, 1) := dqo_5 (kb_20 53 rfl)
theorem dL_law_1334 : decode cL_law 1334 = .ok (.iadd, 1) := dqo_96 (kb_20 54 rfl)
theorem dL_law_1335 : decode cL_law 1335 = .ok (.iaload, 1) := dqo_46 (kb_20 55 rfl)
theorem dL_law_1336 : decode cL_law 1336 = .ok (.invokevirtual 261, 3) := dqo_182 1 5 (kb_20 56 rfl) (kb_20 57 rfl) (kb_20 58 rfl)
theorem dL_law_1339 : decode cL_law 1339 = .ok (.istore 6, 2) := dqo_54 6 (kb_20 59 rfl) (kb_20 60 rfl)
theorem dL_law_1341 : decode cL_law 1341 = .ok (.goto 788, 3) := dqo_167 3 20 (by decide) (kb_20 61 rfl) (kb_20 62 rfl) (kb_20 63 rfl)
theorem dL_law_1344 : decode cL_law 1344 = .ok (.aload_n 1, 1) := dqo_43 (kb_21 0 rfl)
theorem dL_law_1345 : decode cL_law 1345 = .ok (.aload_n 0, 1) := dqo_42 (kb_21 1 rfl)
theorem dL_law_1346 : decode cL_law 1346 = .ok (.iload 4, 2) := dqo_21 4 (kb_21 2 rfl) (kb_21 3 rfl)
theorem dL_law_1348 : decode cL_law 1348 = .ok (.iconst 1, 1) := dqo_4 (kb_21 4 rfl)
theorem dL_law_1349 : decode cL_law 1349 = .ok (.iadd, 1) := dqo_96 (kb_21 5 rfl)
theorem dL_law_1350 : decode cL_law 1350 = .ok (.iaload, 1) := dqo_46 (kb_21 6 rfl)
theorem dL_law_1351 : decode cL_law 1351 = .ok (.aload_n 0, 1) := dqo_42 (kb_21 7 rfl)
theorem dL_law_1352 : decode cL_law 1352 = .ok (.iload 4, 2) := dqo_21 4 (kb_21 8 rfl) (kb_21 9 rfl)
theorem dL_law_1354 : decode cL_law 1354 = .ok (.iconst 2, 1) := dqo_5 (kb_21 10 rfl)
theorem dL_law_1355 : decode cL_law 1355 = .ok (.iadd, 1) := dqo_96 (kb_21 11 rfl)
theorem dL_law_1356 : decode cL_law 1356 = .ok (.iaload, 1) := dqo_46 (kb_21 12 rfl)
theorem dL_law_1357 : decode cL_law 1357 = .ok (.aload_n 3, 1) := dqo_45 (kb_21 13 rfl)
theorem dL_law_1358 : decode cL_law 1358 = .ok (.invokestatic 262, 3) := dqo_184 1 6 (kb_21 14 rfl) (kb_21 15 rfl) (kb_21 16 rfl)
theorem dL_law_1361 : decode cL_law 1361 = .ok (.istore 5, 2) := dqo_54 5 (kb_21 17 rfl) (kb_21 18 rfl)
theorem dL_law_1363 : decode cL_law 1363 = .ok (.aload_n 2, 1) := dqo_44 (kb_21 19 rfl)
theorem dL_law_1364 : decode cL_law 1364 = .ok (.aload_n 0, 1) := dqo_42 (kb_21 20 rfl)
theorem dL_law_1365 : decode cL_law 1365 = .ok (.iload 4, 2) := dqo_21 4 (kb_21 21 rfl) (kb_21 22 rfl)
theorem dL_law_1367 : decode cL_law 1367 = .ok (.iconst 1, 1) := dqo_4 (kb_21 23 rfl)
theorem dL_law_1368 : decode cL_law 1368 = .ok (.iadd, 1) := dqo_96 (kb_21 24 rfl)
theorem dL_law_1369 : decode cL_law 1369 = .ok (.iaload, 1) := dqo_46 (kb_21 25 rfl)
theorem dL_law_1370 : decode cL_law 1370 = .ok (.aload_n 0, 1) := dqo_42 (kb_21 26 rfl)
theorem dL_law_1371 : decode cL_law 1371 = .ok (.iload 4, 2) := dqo_21 4 (kb_21 27 rfl) (kb_21 28 rfl)
theorem dL_law_1373 : decode cL_law 1373 = .ok (.iconst 2, 1) := dqo_5 (kb_21 29 rfl)
theorem dL_law_1374 : decode cL_law 1374 = .ok (.iadd, 1) := dqo_96 (kb_21 30 rfl)
theorem dL_law_1375 : decode cL_law 1375 = .ok (.iaload, 1) := dqo_46 (kb_21 31 rfl)
theorem dL_law_1376 : decode cL_law 1376 = .ok (.invokevirtual 264, 3) := dqo_182 1 8 (kb_21 32 rfl) (kb_21 33 rfl) (kb_21 34 rfl)
theorem dL_law_1379 : decode cL_law 1379 = .ok (.istore 6, 2) := dqo_54 6 (kb_21 35 rfl) (kb_21 36 rfl)
theorem dL_law_1381 : decode cL_law 1381 = .ok (.goto 748, 3) := dqo_167 2 236 (by decide) (kb_21 37 rfl) (kb_21 38 rfl) (kb_21 39 rfl)
theorem dL_law_1384 : decode cL_law 1384 = .ok (.aload_n 1, 1) := dqo_43 (kb_21 40 rfl)
theorem dL_law_1385 : decode cL_law 1385 = .ok (.aload_n 0, 1) := dqo_42 (kb_21 41 rfl)
theorem dL_law_1386 : decode cL_law 1386 = .ok (.iload 4, 2) := dqo_21 4 (kb_21 42 rfl) (kb_21 43 rfl)
theorem dL_law_1388 : decode cL_law 1388 = .ok (.iconst 1, 1) := dqo_4 (kb_21 44 rfl)
theorem dL_law_1389 : decode cL_law 1389 = .ok (.iadd, 1) := dqo_96 (kb_21 45 rfl)
theorem dL_law_1390 : decode cL_law 1390 = .ok (.iaload, 1) := dqo_46 (kb_21 46 rfl)
theorem dL_law_1391 : decode cL_law 1391 = .ok (.aload_n 0, 1) := dqo_42 (kb_21 47 rfl)
theorem dL_law_1392 : decode cL_law 1392 = .ok (.iload 4, 2) := dqo_21 4 (kb_21 48 rfl) (kb_21 49 rfl)
theorem dL_law_1394 : decode cL_law 1394 = .ok (.iconst 2, 1) := dqo_5 (kb_21 50 rfl)
theorem dL_law_1395 : decode cL_law 1395 = .ok (.iadd, 1) := dqo_96 (kb_21 51 rfl)
theorem dL_law_1396 : decode cL_law 1396 = .ok (.iaload, 1) := dqo_46 (kb_21 52 rfl)
theorem dL_law_1397 : decode cL_law 1397 = .ok (.ifCond .eq 7, 3) := dqo_153 0 7 (by decide) (kb_21 53 rfl) (kb_21 54 rfl) (kb_21 55 rfl)
theorem dL_law_1400 : decode cL_law 1400 = .ok (.iconst 1, 1) := dqo_4 (kb_21 56 rfl)
theorem dL_law_1401 : decode cL_law 1401 = .ok (.goto 4, 3) := dqo_167 0 4 (by decide) (kb_21 57 rfl) (kb_21 58 rfl) (kb_21 59 rfl)
theorem dL_law_1404 : decode cL_law 1404 = .ok (.iconst 0, 1) := dqo_3 (kb_21 60 rfl)
theorem dL_law_1405 : decode cL_law 1405 = .ok (.aload_n 3, 1) := dqo_45 (kb_21 61 rfl)
theorem dL_law_1406 : decode cL_law 1406 = .ok (.invokestatic 265, 3) := dqo_184 1 9 (kb_21 62 rfl) (kb_21 63 rfl) (kb_22 0 rfl)
theorem dL_law_1409 : decode cL_law 1409 = .ok (.istore 5, 2) := dqo_54 5 (kb_22 1 rfl) (kb_22 2 rfl)
theorem dL_law_1411 : decode cL_law 1411 = .ok (.aload_n 2, 1) := dqo_44 (kb_22 3 rfl)
theorem dL_law_1412 : decode cL_law 1412 = .ok (.aload_n 0, 1) := dqo_42 (kb_22 4 rfl)
theorem dL_law_1413 : decode cL_law 1413 = .ok (.iload 4, 2) := dqo_21 4 (kb_22 5 rfl) (kb_22 6 rfl)
theorem dL_law_1415 : decode cL_law 1415 = .ok (.iconst 1, 1) := dqo_4 (kb_22 7 rfl)
theorem dL_law_1416 : decode cL_law 1416 = .ok (.iadd, 1) := dqo_96 (kb_22 8 rfl)
theorem dL_law_1417 : decode cL_law 1417 = .ok (.iaload, 1) := dqo_46 (kb_22 9 rfl)
theorem dL_law_1418 : decode cL_law 1418 = .ok (.aload_n 0, 1) := dqo_42 (kb_22 10 rfl)
theorem dL_law_1419 : decode cL_law 1419 = .ok (.iload 4, 2) := dqo_21 4 (kb_22 11 rfl) (kb_22 12 rfl)
theorem dL_law_1421 : decode cL_law 1421 = .ok (.iconst 2, 1) := dqo_5 (kb_22 13 rfl)
theorem dL_law_1422 : decode cL_law 1422 = .ok (.iadd, 1) := dqo_96 (kb_22 14 rfl)
theorem dL_law_1423 : decode cL_law 1423 = .ok (.iaload, 1) := dqo_46 (kb_22 15 rfl)
theorem dL_law_1424 : decode cL_law 1424 = .ok (.ifCond .eq 7, 3) := dqo_153 0 7 (by decide) (kb_22 16 rfl) (kb_22 17 rfl) (kb_22 18 rfl)
theorem dL_law_1427 : decode cL_law 1427 = .ok (.iconst 1, 1) := dqo_4 (kb_22 19 rfl)
theorem dL_law_1428 : decode cL_law 1428 = .ok (.goto 4, 3) := dqo_167 0 4 (by decide) (kb_22 20 rfl) (kb_22 21 rfl) (kb_22 22 rfl)
theorem dL_law_1431 : decode cL_law 1431 = .ok (.iconst 0, 1) := dqo_3 (kb_22 23 rfl)
theorem dL_law_1432 : decode cL_law 1432 = .ok (.invokevirtual 268, 3) := dqo_182 1 12 (kb_22 24 rfl) (kb_22 25 rfl) (kb_22 26 rfl)
theorem dL_law_1435 : decode cL_law 1435 = .ok (.istore 6, 2) := dqo_54 6 (kb_22 27 rfl) (kb_22 28 rfl)
theorem dL_law_1437 : decode cL_law 1437 = .ok (.goto 692, 3) := dqo_167 2 180 (by decide) (kb_22 29 rfl) (kb_22 30 rfl) (kb_22 31 rfl)
theorem dL_law_1440 : decode cL_law 1440 = .ok (.aload_n 1, 1) := dqo_43 (kb_22 32 rfl)
theorem dL_law_1441 : decode cL_law 1441 = .ok (.aload_n 0, 1) := dqo_42 (kb_22 33 rfl)
theorem dL_law_1442 : decode cL_law 1442 = .ok (.iload 4, 2) := dqo_21 4 (kb_22 34 rfl) (kb_22 35 rfl)
theorem dL_law_1444 : decode cL_law 1444 = .ok (.iconst 1, 1) := dqo_4 (kb_22 36 rfl)
theorem dL_law_1445 : decode cL_law 1445 = .ok (.iadd, 1) := dqo_96 (kb_22 37 rfl)
theorem dL_law_1446 : decode cL_law 1446 = .ok (.iaload, 1) := dqo_46 (kb_22 38 rfl)
theorem dL_law_1447 : decode cL_law 1447 = .ok (.aload_n 0, 1) := dqo_42 (kb_22 39 rfl)
theorem dL_law_1448 : decode cL_law 1448 = .ok (.iload 4, 2) := dqo_21 4 (kb_22 40 rfl) (kb_22 41 rfl)
theorem dL_law_1450 : decode cL_law 1450 = .ok (.iconst 2, 1) := dqo_5 (kb_22 42 rfl)
theorem dL_law_1451 : decode cL_law 1451 = .ok (.iadd, 1) := dqo_96 (kb_22 43 rfl)
theorem dL_law_1452 : decode cL_law 1452 = .ok (.iaload, 1) := dqo_46 (kb_22 44 rfl)
theorem dL_law_1453 : decode cL_law 1453 = .ok (.aload_n 3, 1) := dqo_45 (kb_22 45 rfl)
theorem dL_law_1454 : decode cL_law 1454 = .ok (.invokestatic 269, 3) := dqo_184 1 13 (kb_22 46 rfl) (kb_22 47 rfl) (kb_22 48 rfl)
theorem dL_law_1457 : decode cL_law 1457 = .ok (.istore 5, 2) := dqo_54 5 (kb_22 49 rfl) (kb_22 50 rfl)
theorem dL_law_1459 : decode cL_law 1459 = .ok (.aload_n 2, 1) := dqo_44 (kb_22 51 rfl)
theorem dL_law_1460 : decode cL_law 1460 = .ok (.aload_n 0, 1) := dqo_42 (kb_22 52 rfl)
theorem dL_law_1461 : decode cL_law 1461 = .ok (.iload 4, 2) := dqo_21 4 (kb_22 53 rfl) (kb_22 54 rfl)
theorem dL_law_1463 : decode cL_law 1463 = .ok (.iconst 1, 1) := dqo_4 (kb_22 55 rfl)
theorem dL_law_1464 : decode cL_law 1464 = .ok (.iadd, 1) := dqo_96 (kb_22 56 rfl)
theorem dL_law_1465 : decode cL_law 1465 = .ok (.iaload, 1) := dqo_46 (kb_22 57 rfl)
theorem dL_law_1466 : decode cL_law 1466 = .ok (.aload_n 0, 1) := dqo_42 (kb_22 58 rfl)
theorem dL_law_1467 : decode cL_law 1467 = .ok (.iload 4, 2) := dqo_21 4 (kb_22 59 rfl) (kb_22 60 rfl)
theorem dL_law_1469 : decode cL_law 1469 = .ok (.iconst 2, 1) := dqo_5 (kb_22 61 rfl)
theorem dL_law_1470 : decode cL_law 1470 = .ok (.iadd, 1) := dqo_96 (kb_22 62 rfl)
theorem dL_law_1471 : decode cL_law 1471 = .ok (.iaload, 1) := dqo_46 (kb_22 63 rfl)
theorem dL_law_1472 : decode cL_law 1472 = .ok (.invokevirtual 271, 3) := dqo_182 1 15 (kb_23 0 rfl) (kb_23 1 rfl) (kb_23 2 rfl)
theorem dL_law_1475 : decode cL_law 1475 = .ok (.istore 6, 2) := dqo_54 6 (kb_23 3 rfl) (kb_23 4 rfl)
theorem dL_law_1477 : decode cL_law 1477 = .ok (.goto 652, 3) := dqo_167 2 140 (by decide) (kb_23 5 rfl) (kb_23 6 rfl) (kb_23 7 rfl)
theorem dL_law_1480 : decode cL_law 1480 = .ok (.aload_n 1, 1) := dqo_43 (kb_23 8 rfl)
theorem dL_law_1481 : decode cL_law 1481 = .ok (.aload_n 0, 1) := dqo_42 (kb_23 9 rfl)
theorem dL_law_1482 : decode cL_law 1482 = .ok (.iload 4, 2) := dqo_21 4 (kb_23 10 rfl) (kb_23 11 rfl)
theorem dL_law_1484 : decode cL_law 1484 = .ok (.iconst 1, 1) := dqo_4 (kb_23 12 rfl)
theorem dL_law_1485 : decode cL_law 1485 = .ok (.iadd, 1) := dqo_96 (kb_23 13 rfl)
theorem dL_law_1486 : decode cL_law 1486 = .ok (.iaload, 1) := dqo_46 (kb_23 14 rfl)
theorem dL_law_1487 : decode cL_law 1487 = .ok (.aload_n 0, 1) := dqo_42 (kb_23 15 rfl)
theorem dL_law_1488 : decode cL_law 1488 = .ok (.iload 4, 2) := dqo_21 4 (kb_23 16 rfl) (kb_23 17 rfl)
theorem dL_law_1490 : decode cL_law 1490 = .ok (.iconst 2, 1) := dqo_5 (kb_23 18 rfl)
theorem dL_law_1491 : decode cL_law 1491 = .ok (.iadd, 1) := dqo_96 (kb_23 19 rfl)
theorem dL_law_1492 : decode cL_law 1492 = .ok (.iaload, 1) := dqo_46 (kb_23 20 rfl)
theorem dL_law_1493 : decode cL_law 1493 = .ok (.aload_n 3, 1) := dqo_45 (kb_23 21 rfl)
theorem dL_law_1494 : decode cL_law 1494 = .ok (.invokestatic 272, 3) := dqo_184 1 16 (kb_23 22 rfl) (kb_23 23 rfl) (kb_23 24 rfl)
theorem dL_law_1497 : decode cL_law 1497 = .ok (.istore 5, 2) := dqo_54 5 (kb_23 25 rfl) (kb_23 26 rfl)
theorem dL_law_1499 : decode cL_law 1499 = .ok (.aload_n 2, 1) := dqo_44 (kb_23 27 rfl)
theorem dL_law_1500 : decode cL_law 1500 = .ok (.aload_n 0, 1) := dqo_42 (kb_23 28 rfl)
theorem dL_law_1501 : decode cL_law 1501 = .ok (.iload 4, 2) := dqo_21 4 (kb_23 29 rfl) (kb_23 30 rfl)
theorem dL_law_1503 : decode cL_law 1503 = .ok (.iconst 1, 1) := dqo_4 (kb_23 31 rfl)
theorem dL_law_1504 : decode cL_law 1504 = .ok (.iadd, 1) := dqo_96 (kb_23 32 rfl)
theorem dL_law_1505 : decode cL_law 1505 = .ok (.iaload, 1) := dqo_46 (kb_23 33 rfl)
theorem dL_law_1506 : decode cL_law 1506 = .ok (.aload_n 0, 1) := dqo_42 (kb_23 34 rfl)
theorem dL_law_1507 : decode cL_law 1507 = .ok (.iload 4, 2) := dqo_21 4 (kb_23 35 rfl) (kb_23 36 rfl)
theorem dL_law_1509 : decode cL_law 1509 = .ok (.iconst 2, 1) := dqo_5 (kb_23 37 rfl)
theorem dL_law_1510 : decode cL_law 1510 = .ok (.iadd, 1) := dqo_96 (kb_23 38 rfl)
theorem dL_law_1511 : decode cL_law 1511 = .ok (.iaload, 1) := dqo_46 (kb_23 39 rfl)
theorem dL_law_1512 : decode cL_law 1512 = .ok (.invokevirtual 274, 3) := dqo_182 1 18 (kb_23 40 rfl) (kb_23 41 rfl) (kb_23 42 rfl)
theorem dL_law_1515 : decode cL_law 1515 = .ok (.istore 6, 2) := dqo_54 6 (kb_23 43 rfl) (kb_23 44 rfl)
theorem dL_law_1517 : decode cL_law 1517 = .ok (.goto 612, 3) := dqo_167 2 100 (by decide) (kb_23 45 rfl) (kb_23 46 rfl) (kb_23 47 rfl)
theorem dL_law_1520 : decode cL_law 1520 = .ok (.aload_n 1, 1) := dqo_43 (kb_23 48 rfl)
theorem dL_law_1521 : decode cL_law 1521 = .ok (.aload_n 0, 1) := dqo_42 (kb_23 49 rfl)
theorem dL_law_1522 : decode cL_law 1522 = .ok (.iload 4, 2) := dqo_21 4 (kb_23 50 rfl) (kb_23 51 rfl)
theorem dL_law_1524 : decode cL_law 1524 = .ok (.iconst 1, 1) := dqo_4 (kb_23 52 rfl)
theorem dL_law_1525 : decode cL_law 1525 = .ok (.iadd, 1) := dqo_96 (kb_23 53 rfl)
theorem dL_law_1526 : decode cL_law 1526 = .ok (.iaload, 1) := dqo_46 (kb_23 54 rfl)
theorem dL_law_1527 : decode cL_law 1527 = .ok (.aload_n 3, 1) := dqo_45 (kb_23 55 rfl)
theorem dL_law_1528 : decode cL_law 1528 = .ok (.invokestatic 275, 3) := dqo_184 1 19 (kb_23 56 rfl) (kb_23 57 rfl) (kb_23 58 rfl)
theorem dL_law_1531 : decode cL_law 1531 = .ok (.istore 5, 2) := dqo_54 5 (kb_23 59 rfl) (kb_23 60 rfl)
theorem dL_law_1533 : decode cL_law 1533 = .ok (.aload_n 2, 1) := dqo_44 (kb_23 61 rfl)
theorem dL_law_1534 : decode cL_law 1534 = .ok (.aload_n 0, 1) := dqo_42 (kb_23 62 rfl)
theorem dL_law_1535 : decode cL_law 1535 = .ok (.iload 4, 2) := dqo_21 4 (kb_23 63 rfl) (kb_24 0 rfl)
theorem dL_law_1537 : decode cL_law 1537 = .ok (.iconst 1, 1) := dqo_4 (kb_24 1 rfl)
theorem dL_law_1538 : decode cL_law 1538 = .ok (.iadd, 1) := dqo_96 (kb_24 2 rfl)
theorem dL_law_1539 : decode cL_law 1539 = .ok (.iaload, 1) := dqo_46 (kb_24 3 rfl)
theorem dL_law_1540 : decode cL_law 1540 = .ok (.invokevirtual 277, 3) := dqo_182 1 21 (kb_24 4 rfl) (kb_24 5 rfl) (kb_24 6 rfl)
theorem dL_law_1543 : decode cL_law 1543 = .ok (.istore 6, 2) := dqo_54 6 (kb_24 7 rfl) (kb_24 8 rfl)
theorem dL_law_1545 : decode cL_law 1545 = .ok (.goto 584, 3) := dqo_167 2 72 (by decide) (kb_24 9 rfl) (kb_24 10 rfl) (kb_24 11 rfl)
theorem dL_law_1548 : decode cL_law 1548 = .ok (.aload_n 1, 1) := dqo_43 (kb_24 12 rfl)
theorem dL_law_1549 : decode cL_law 1549 = .ok (.aload_n 0, 1) := dqo_42 (kb_24 13 rfl)
theorem dL_law_1550 : decode cL_law 1550 = .ok (.iload 4, 2) := dqo_21 4 (kb_24 14 rfl) (kb_24 15 rfl)
theorem dL_law_1552 : decode cL_law 1552 = .ok (.iconst 1, 1) := dqo_4 (kb_24 16 rfl)
theorem dL_law_1553 : decode cL_law 1553 = .ok (.iadd, 1) := dqo_96 (kb_24 17 rfl)
theorem dL_law_1554 : decode cL_law 1554 = .ok (.iaload, 1) := dqo_46 (kb_24 18 rfl)
theorem dL_law_1555 : decode cL_law 1555 = .ok (.aload_n 3, 1) := dqo_45 (kb_24 19 rfl)
theorem dL_law_1556 : decode cL_law 1556 = .ok (.invokestatic 278, 3) := dqo_184 1 22 (kb_24 20 rfl) (kb_24 21 rfl) (kb_24 22 rfl)
theorem dL_law_1559 : decode cL_law 1559 = .ok (.istore 5, 2) := dqo_54 5 (kb_24 23 rfl) (kb_24 24 rfl)
theorem dL_law_1561 : decode cL_law 1561 = .ok (.aload_n 2, 1) := dqo_44 (kb_24 25 rfl)
theorem dL_law_1562 : decode cL_law 1562 = .ok (.aload_n 0, 1) := dqo_42 (kb_24 26 rfl)
theorem dL_law_1563 : decode cL_law 1563 = .ok (.iload 4, 2) := dqo_21 4 (kb_24 27 rfl) (kb_24 28 rfl)
theorem dL_law_1565 : decode cL_law 1565 = .ok (.iconst 1, 1) := dqo_4 (kb_24 29 rfl)
theorem dL_law_1566 : decode cL_law 1566 = .ok (.iadd, 1) := dqo_96 (kb_24 30 rfl)
theorem dL_law_1567 : decode cL_law 1567 = .ok (.iaload, 1) := dqo_46 (kb_24 31 rfl)
theorem dL_law_1568 : decode cL_law 1568 = .ok (.invokevirtual 280, 3) := dqo_182 1 24 (kb_24 32 rfl) (kb_24 33 rfl) (kb_24 34 rfl)
theorem dL_law_1571 : decode cL_law 1571 = .ok (.astore 6, 2) := dqo_58 6 (kb_24 35 rfl) (kb_24 36 rfl)
theorem dL_law_1573 : decode cL_law 1573 = .ok (.aload_n 2, 1) := dqo_44 (kb_24 37 rfl)
theorem dL_law_1574 : decode cL_law 1574 = .ok (.invokevirtual 281, 3) := dqo_182 1 25 (kb_24 38 rfl) (kb_24 39 rfl) (kb_24 40 rfl)
theorem dL_law_1577 : decode cL_law 1577 = .ok (.iload 5, 2) := dqo_21 5 (kb_24 41 rfl) (kb_24 42 rfl)
theorem dL_law_1579 : decode cL_law 1579 = .ok (.if_icmp .eq 5, 3) := dqo_159 0 5 (by decide) (kb_24 43 rfl) (kb_24 44 rfl) (kb_24 45 rfl)
theorem dL_law_1584 : decode cL_law 1584 = .ok (.iload 5, 2) := dqo_21 5 (kb_24 48 rfl) (kb_24 49 rfl)
theorem dL_law_1586 : decode cL_law 1586 = .ok (.ifCond .ne 17, 3) := dqo_154 0 17 (by decide) (kb_24 50 rfl) (kb_24 51 rfl) (kb_24 52 rfl)
theorem dL_law_1589 : decode cL_law 1589 = .ok (.aload_n 3, 1) := dqo_45 (kb_24 53 rfl)
theorem dL_law_1590 : decode cL_law 1590 = .ok (.getfield 127, 3) := dqo_180 0 127 (kb_24 54 rfl) (kb_24 55 rfl) (kb_24 56 rfl)
theorem dL_law_1593 : decode cL_law 1593 = .ok (.aload 6, 2) := dqo_25 6 (kb_24 57 rfl) (kb_24 58 rfl)
theorem dL_law_1595 : decode cL_law 1595 = .ok (.invokevirtual 285, 3) := dqo_182 1 29 (kb_24 59 rfl) (kb_24 60 rfl) (kb_24 61 rfl)
theorem dL_law_1598 : decode cL_law 1598 = .ok (.ifCond .ne 5, 3) := dqo_154 0 5 (by decide) (kb_24 62 rfl) (kb_24 63 rfl) (kb_25 0 rfl)
theorem dL_law_1603 : decode cL_law 1603 = .ok (.goto 526, 3) := dqo_167 2 14 (by decide) (kb_25 3 rfl) (kb_25 4 rfl) (kb_25 5 rfl)
theorem dL_law_1606 : decode cL_law 1606 = .ok (.aload_n 1, 1) := dqo_43 (kb_25 6 rfl)
theorem dL_law_1607 : decode cL_law 1607 = .ok (.aload_n 0, 1) := dqo_42 (kb_25 7 rfl)
theorem dL_law_1608 : decode cL_law 1608 = .ok (.iload 4, 2) := dqo_21 4 (kb_25 8 rfl) (kb_25 9 rfl)
theorem dL_law_1610 : decode cL_law 1610 = .ok (.iconst 1, 1) := dqo_4 (kb_25 10 rfl)
theorem dL_law_1611 : decode cL_law 1611 = .ok (.iadd, 1) := dqo_96 (kb_25 11 rfl)
theorem dL_law_1612 : decode cL_law 1612 = .ok (.iaload, 1) := dqo_46 (kb_25 12 rfl)
theorem dL_law_1613 : decode cL_law 1613 = .ok (.aload_n 0, 1) := dqo_42 (kb_25 13 rfl)
theorem dL_law_1614 : decode cL_law 1614 = .ok (.iload 4, 2) := dqo_21 4 (kb_25 14 rfl) (kb_25 15 rfl)
theorem dL_law_1616 : decode cL_law 1616 = .ok (.iconst 2, 1) := dqo_5 (kb_25 16 rfl)
theorem dL_law_1617 : decode cL_law 1617 = .ok (.iadd, 1) := dqo_96 (kb_25 17 rfl)
theorem dL_law_1618 : decode cL_law 1618 = .ok (.iaload, 1) := dqo_46 (kb_25 18 rfl)
theorem dL_law_1619 : decode cL_law 1619 = .ok (.aload_n 3, 1) := dqo_45 (kb_25 19 rfl)
theorem dL_law_1620 : decode cL_law 1620 = .ok (.invokestatic 291, 3) := dqo_184 1 35 (kb_25 20 rfl) (kb_25 21 rfl) (kb_25 22 rfl)
theorem dL_law_1623 : decode cL_law 1623 = .ok (.istore 5, 2) := dqo_54 5 (kb_25 23 rfl) (kb_25 24 rfl)
theorem dL_law_1625 : decode cL_law 1625 = .ok (.aload_n 2, 1) := dqo_44 (kb_25 25 rfl)
theorem dL_law_1626 : decode cL_law 1626 = .ok (.aload_n 0, 1) := dqo_42 (kb_25 26 rfl)
theorem dL_law_1627 : decode cL_law 1627 = .ok (.iload 4, 2) := dqo_21 4 (kb_25 27 rfl) (kb_25 28 rfl)
theorem dL_law_1629 : decode cL_law 1629 = .ok (.iconst 1, 1) := dqo_4 (kb_25 29 rfl)
theorem dL_law_1630 : decode cL_law 1630 = .ok (.iadd, 1) := dqo_96 (kb_25 30 rfl)
theorem dL_law_1631 : decode cL_law 1631 = .ok (.iaload, 1) := dqo_46 (kb_25 31 rfl)
theorem dL_law_1632 : decode cL_law 1632 = .ok (.aload_n 0, 1) := dqo_42 (kb_25 32 rfl)
theorem dL_law_1633 : decode cL_law 1633 = .ok (.iload 4, 2) := dqo_21 4 (kb_25 33 rfl) (kb_25 34 rfl)
theorem dL_law_1635 : decode cL_law 1635 = .ok (.iconst 2, 1) := dqo_5 (kb_25 35 rfl)
theorem dL_law_1636 : decode cL_law 1636 = .ok (.iadd, 1) := dqo_96 (kb_25 36 rfl)
theorem dL_law_1637 : decode cL_law 1637 = .ok (.iaload, 1) := dqo_46 (kb_25 37 rfl)
theorem dL_law_1638 : decode cL_law 1638 = .ok (.invokevirtual 293, 3) := dqo_182 1 37 (kb_25 38 rfl) (kb_25 39 rfl) (kb_25 40 rfl)
theorem dL_law_1641 : decode cL_law 1641 = .ok (.istore 6, 2) := dqo_54 6 (kb_25 41 rfl) (kb_25 42 rfl)
theorem dL_law_1643 : decode cL_law 1643 = .ok (.goto 486, 3) := dqo_167 1 230 (by decide) (kb_25 43 rfl) (kb_25 44 rfl) (kb_25 45 rfl)
theorem dL_law_1646 : decode cL_law 1646 = .ok (.aload_n 1, 1) := dqo_43 (kb_25 46 rfl)
theorem dL_law_1647 : decode cL_law 1647 = .ok (.aload_n 0, 1) := dqo_42 (kb_25 47 rfl)
theorem dL_law_1648 : decode cL_law 1648 = .ok (.iload 4, 2) := dqo_21 4 (kb_25 48 rfl) (kb_25 49 rfl)
theorem dL_law_1650 : decode cL_law 1650 = .ok (.iconst 1, 1) := dqo_4 (kb_25 50 rfl)
theorem dL_law_1651 : decode cL_law 1651 = .ok (.iadd, 1) := dqo_96 (kb_25 51 rfl)
theorem dL_law_1652 : decode cL_law 1652 = .ok (.iaload, 1) := dqo_46 (kb_25 52 rfl)
theorem dL_law_1653 : decode cL_law 1653 = .ok (.aload_n 0, 1) := dqo_42 (kb_25 53 rfl)
theorem dL_law_1654 : decode cL_law 1654 = .ok (.iload 4, 2) := dqo_21 4 (kb_25 54 rfl) (kb_25 55 rfl)
theorem dL_law_1656 : decode cL_law 1656 = .ok (.iconst 2, 1) := dqo_5 (kb_25 56 rfl)
theorem dL_law_1657 : decode cL_law 1657 = .ok (.iadd, 1) := dqo_96 (kb_25 57 rfl)
theorem dL_law_1658 : decode cL_law 1658 = .ok (.iaload, 1) := dqo_46 (kb_25 58 rfl)
theorem dL_law_1659 : decode cL_law 1659 = .ok (.aload_n 0, 1) := dqo_42 (kb_25 59 rfl)
theorem dL_law_1660 : decode cL_law 1660 = .ok (.iload 4, 2) := dqo_21 4 (kb_25 60 rfl) (kb_25 61 rfl)
theorem dL_law_1662 : decode cL_law 1662 = .ok (.iconst 3, 1) := dqo_6 (kb_25 62 rfl)
theorem dL_law_1663 : decode cL_law 1663 = .ok (.iadd, 1) := dqo_96 (kb_25 63 rfl)
theorem dL_law_1664 : decode cL_law 1664 = .ok (.iaload, 1) := dqo_46 (kb_26 0 rfl)
theorem dL_law_1665 : decode cL_law 1665 = .ok (.aload_n 0, 1) := dqo_42 (kb_26 1 rfl)
theorem dL_law_1666 : decode cL_law 1666 = .ok (.iload 4, 2) := dqo_21 4 (kb_26 2 rfl) (kb_26 3 rfl)
theorem dL_law_1668 : decode cL_law 1668 = .ok (.iconst 4, 1) := dqo_7 (kb_26 4 rfl)
theorem dL_law_1669 : decode cL_law 1669 = .ok (.iadd, 1) := dqo_96 (kb_26 5 rfl)
theorem dL_law_1670 : decode cL_law 1670 = .ok (.iaload, 1) := dqo_46 (kb_26 6 rfl)
theorem dL_law_1671 : decode cL_law 1671 = .ok (.aload_n 3, 1) := dqo_45 (kb_26 7 rfl)
theorem dL_law_1672 : decode cL_law 1672 = .ok (.invokestatic 294, 3) := dqo_184 1 38 (kb_26 8 rfl) (kb_26 9 rfl) (kb_26 10 rfl)
theorem dL_law_1675 : decode cL_law 1675 = .ok (.istore 5, 2) := dqo_54 5 (kb_26 11 rfl) (kb_26 12 rfl)
theorem dL_law_1677 : decode cL_law 1677 = .ok (.aload_n 2, 1) := dqo_44 (kb_26 13 rfl)
theorem dL_law_1678 : decode cL_law 1678 = .ok (.aload_n 0, 1) := dqo_42 (kb_26 14 rfl)
theorem dL_law_1679 : decode cL_law 1679 = .ok (.iload 4, 2) := dqo_21 4 (kb_26 15 rfl) (kb_26 16 rfl)
theorem dL_law_1681 : decode cL_law 1681 = .ok (.iconst 1, 1) := dqo_4 (kb_26 17 rfl)
theorem dL_law_1682 : decode cL_law 1682 = .ok (.iadd, 1) := dqo_96 (kb_26 18 rfl)
theorem dL_law_1683 : decode cL_law 1683 = .ok (.iaload, 1) := dqo_46 (kb_26 19 rfl)
theorem dL_law_1684 : decode cL_law 1684 = .ok (.aload_n 0, 1) := dqo_42 (kb_26 20 rfl)
theorem dL_law_1685 : decode cL_law 1685 = .ok (.iload 4, 2) := dqo_21 4 (kb_26 21 rfl) (kb_26 22 rfl)
theorem dL_law_1687 : decode cL_law 1687 = .ok (.iconst 2, 1) := dqo_5 (kb_26 23 rfl)
theorem dL_law_1688 : decode cL_law 1688 = .ok (.iadd, 1) := dqo_96 (kb_26 24 rfl)
theorem dL_law_1689 : decode cL_law 1689 = .ok (.iaload, 1) := dqo_46 (kb_26 25 rfl)
theorem dL_law_1690 : decode cL_law 1690 = .ok (.aload_n 0, 1) := dqo_42 (kb_26 26 rfl)
theorem dL_law_1691 : decode cL_law 1691 = .ok (.iload 4, 2) := dqo_21 4 (kb_26 27 rfl) (kb_26 28 rfl)
theorem dL_law_1693 : decode cL_law 1693 = .ok (.iconst 3, 1) := dqo_6 (kb_26 29 rfl)
theorem dL_law_1694 : decode cL_law 1694 = .ok (.iadd, 1) := dqo_96 (kb_26 30 rfl)
theorem dL_law_1695 : decode cL_law 1695 = .ok (.iaload, 1) := dqo_46 (kb_26 31 rfl)
theorem dL_law_1696 : decode cL_law 1696 = .ok (.aload_n 0, 1) := dqo_42 (kb_26 32 rfl)
theorem dL_law_1697 : decode cL_law 1697 = .ok (.iload 4, 2) := dqo_21 4 (kb_26 33 rfl) (kb_26 34 rfl)
theorem dL_law_1699 : decode cL_law 1699 = .ok (.iconst 4, 1) := dqo_7 (kb_26 35 rfl)
theorem dL_law_1700 : decode cL_law 1700 = .ok (.iadd, 1) := dqo_96 (kb_26 36 rfl)
theorem dL_law_1701 : decode cL_law 1701 = .ok (.iaload, 1) := dqo_46 (kb_26 37 rfl)
theorem dL_law_1702 : decode cL_law 1702 = .ok (.invokevirtual 296, 3) := dqo_182 1 40 (kb_26 38 rfl) (kb_26 39 rfl) (kb_26 40 rfl)
theorem dL_law_1705 : decode cL_law 1705 = .ok (.istore 6, 2) := dqo_54 6 (kb_26 41 rfl) (kb_26 42 rfl)
theorem dL_law_1707 : decode cL_law 1707 = .ok (.goto 422, 3) := dqo_167 1 166 (by decide) (kb_26 43 rfl) (kb_26 44 rfl) (kb_26 45 rfl)
theorem dL_law_1710 : decode cL_law 1710 = .ok (.aload_n 1, 1) := dqo_43 (kb_26 46 rfl)
theorem dL_law_1711 : decode cL_law 1711 = .ok (.aload_n 0, 1) := dqo_42 (kb_26 47 rfl)
theorem dL_law_1712 : decode cL_law 1712 = .ok (.iload 4, 2) := dqo_21 4 (kb_26 48 rfl) (kb_26 49 rfl)
theorem dL_law_1714 : decode cL_law 1714 = .ok (.iconst 1, 1) := dqo_4 (kb_26 50 rfl)
theorem dL_law_1715 : decode cL_law 1715 = .ok (.iadd, 1) := dqo_96 (kb_26 51 rfl)
theorem dL_law_1716 : decode cL_law 1716 = .ok (.iaload, 1) := dqo_46 (kb_26 52 rfl)
theorem dL_law_1717 : decode cL_law 1717 = .ok (.aload_n 3, 1) := dqo_45 (kb_26 53 rfl)
theorem dL_law_1718 : decode cL_law 1718 = .ok (.invokestatic 297, 3) := dqo_184 1 41 (kb_26 54 rfl) (kb_26 55 rfl) (kb_26 56 rfl)
theorem dL_law_1721 : decode cL_law 1721 = .ok (.istore 5, 2) := dqo_54 5 (kb_26 57 rfl) (kb_26 58 rfl)
theorem dL_law_1723 : decode cL_law 1723 = .ok (.aload_n 2, 1) := dqo_44 (kb_26 59 rfl)
theorem dL_law_1724 : decode cL_law 1724 = .ok (.aload_n 0, 1) := dqo_42 (kb_26 60 rfl)
theorem dL_law_1725 : decode cL_law 1725 = .ok (.iload 4, 2) := dqo_21 4 (kb_26 61 rfl) (kb_26 62 rfl)
theorem dL_law_1727 : decode cL_law 1727 = .ok (.iconst 1, 1) := dqo_4 (kb_26 63 rfl)
theorem dL_law_1728 : decode cL_law 1728 = .ok (.iadd, 1) := dqo_96 (kb_27 0 rfl)
theorem dL_law_1729 : decode cL_law 1729 = .ok (.iaload, 1) := dqo_46 (kb_27 1 rfl)
theorem dL_law_1730 : decode cL_law 1730 = .ok (.invokevirtual 299, 3) := dqo_182 1 43 (kb_27 2 rfl) (kb_27 3 rfl) (kb_27 4 rfl)
theorem dL_law_1733 : decode cL_law 1733 = .ok (.istore 6, 2) := dqo_54 6 (kb_27 5 rfl) (kb_27 6 rfl)
theorem dL_law_1735 : decode cL_law 1735 = .ok (.goto 394, 3) := dqo_167 1 138 (by decide) (kb_27 7 rfl) (kb_27 8 rfl) (kb_27 9 rfl)
theorem S_indexOf {p : Program} {l : Launch} {e : Env} {s : State} {m : MethodId} {args : Array Value} {below : List Frame} {meth : Method} {c : Code} {D : va_G} {cy : Nat → ClassId} {A : Nat → Prop} {Q : State → Prop} {X : (Nat → Prop) → State → Heap → Prop} {aK aV : Nat → Nat} {tO tT : Nat} {gO gT : Nat → Int32} {a : Nat → Nat → Nat} {ba : Nat → Nat} {o b L i cells slots : Nat} {xs : Nat → Int32} {w : va_W} (C : Fg p s m args meth c cL_law 7 RL D cy A) (hE : X A s s.heap) (hT : EnvT X cy aK aV tO tT gO gT) (hN : EnvN X) (hl : l.stackTraces = false) (hx : va_X b L xs s s.heap) (hbl : b < s.heap.size) (hbA : ¬ A b) (hi : i + 5 ≤ L) (hL : L ≤ 2560) (hc : cells + 500 ≤ room_1.cells) (hs : slots + 10000 ≤ room_1.slots) (hJ : JW cy a ba o w) (kk : ∀ w' : va_W, JW cy a ba o w' → vW p l e room_1 s m args below meth c D vwCl A Q 7 (cells + 500) (slots + 10000) w' [some (.ref b), some (.ref (a 0 0)), some (.ref (ba 9)), some (.ref o), some (.int (nI i)), none, none] 2129 []) : vW p l e room_1 s m args below meth c D vwCl A Q 7 cells slots w [some (.ref b), some (.ref (a 0 0)), some (.ref (ba 9)), some (.ref o), some (.int (nI i)), none, none] 1224 [] := by
  have hX := hT.1.1
  obtain ⟨f, r, hf, hq, kn, ra, th, sm, n, v, hC, hB, hM, rfl⟩ := hJ
  refine r_aload_n C dL_law_1224 rfl ?_
  refine r_aload_n C dL_law_1225 rfl ?_
  refine r_iload C dL_law_1226 rfl ?_
  refine r_iconst (v := nI 1) C dL_law_1228 (by decide) ?_
  refine r_iaddN C dL_law_1229 ?_
  refine r_sld C hx hbl hbA (show i + 1 < L by omega) (by omega) dL_law_1230 ?_
  refine r_aload_n C dL_law_1231 rfl ?_
  refine r_iload C dL_law_1232 rfl ?_
  refine r_iconst (v := nI 2) C dL_law_1234 (by decide) ?_
  refine r_iaddN C dL_law_1235 ?_
  refine r_sld C hx hbl hbA (show i + 2 < L by omega) (by omega) dL_law_1236 ?_
  refine r_aload_n C dL_law_1237 rfl ?_
  refine c_SH (st := []) hX.1.stb C hE (W_indexOf hX.1 hN hC hB hM (P_indexOf hX hl hC hB hM (xs (i + 1)) (xs (i + 2)))) pk_L_indexOf qm_L_253 rfl rfl (Nat.le_of_ble_eq_true rfl) dL_law_1238 ⟨(Nat.le_of_ble_eq_true rfl), (Nat.le_of_ble_eq_true rfl)⟩ ⟨show cells + 1 ≤ room_1.cells by omega, show slots + 6 ≤ room_1.slots by omega⟩ (fun v9 w9 h9 => ?_) (fun _ h9 => h9.elim)
  obtain ⟨f', r', k, n1, rfl, rfl, hf', hq', n2, hC', hB', hM', hk0, hk4, h2⟩ := h9
  refine r_istore C dL_law_1241 (by decide) rfl ?_
  refine r_aload_n C dL_law_1243 rfl ?_
  refine r_aload_n C dL_law_1244 rfl ?_
  refine r_iload C dL_law_1245 rfl ?_
  refine r_iconst (v := nI 1) C dL_law_1247 (by decide) ?_
  refine r_iaddN C dL_law_1248 ?_
  refine r_sld C hx hbl hbA (show i + 1 < L by omega) (by omega) dL_law_1249 ?_
  refine r_aload_n C dL_law_1250 rfl ?_
  refine r_iload C dL_law_1251 rfl ?_
  refine r_iconst (v := nI 2) C dL_law_1253 (by decide) ?_
  refine r_iaddN C dL_law_1254 ?_
  refine r_sld C hx hbl hbA (show i + 2 < L by omega) (by omega) dL_law_1255 ?_
  refine t_swap3 ?_
  refine c_V (st := []) hX.1.stb C hE (h2 _) pk_X4_indexOf qm_L_255 0 8 rfl rfl wm_0 rfl rfl (Nat.le_of_ble_eq_true rfl) dL_law_1256 ⟨(Nat.le_of_ble_eq_true rfl), (Nat.le_of_ble_eq_true rfl)⟩ ⟨show cells + 1 + 4 ≤ room_1.cells by omega, show slots + 6 + 48 ≤ room_1.slots by omega⟩ (fun v9 w9 h9 => ?_) (fun _ h9 => h9.elim)
  obtain ⟨ra9, rfl, rfl⟩ := h9
  refine r_istore C dL_law_1259 (by decide) rfl ?_
  refine t_swap3 ?_
  refine r_goto (tgt := 2129) C dL_law_1261 (by decide) ?_
  refine r_widen (k := cells + 500) (n := slots + 10000) (show cells + 1 + 4 ≤ cells + 500 by omega) (show slots + 6 + 48 ≤ slots + 10000 by omega) ?_
  refine r_drop 5 ?_
  refine r_drop 6 ?_
  exact kk _ ⟨f', r', hf', hq', kn, ra9, _, sm, _, _, hC', hB', hM', rfl⟩
theorem S_lastIndexOf {p : Program} {l : Launch} {e : Env} {s : State} {m : MethodId} {args : Array Value} {below : List Frame} {meth : Method} {c : Code} {D : va_G} {cy : Nat → ClassId} {A : Nat → Prop} {Q : State → Prop} {X : (Nat → Prop) → State → Heap → Prop} {aK aV : Nat → Nat} {tO tT : Nat} {gO gT : Nat → Int32} {a : Nat → Nat → Nat} {ba : Nat → Nat} {o b L i cells slots : Nat} {xs : Nat → Int32} {w : va_W} (C : Fg p s m args meth c cL_law 7 RL D cy A) (hE : X A s s.heap) (hT : EnvT X cy aK aV tO tT gO gT) (hN : EnvN X) (hl : l.stackTraces = false) (hx : va_X b L xs s s.heap) (hbl : b < s.heap.size) (hbA : ¬ A b) (hi : i + 5 ≤ L) (hL : L ≤ 2560) (hc : cells + 500 ≤ room_1.cells) (hs : slots + 10000 ≤ room_1.slots) (hJ : JW cy a ba o w) (kk : ∀ w' : va_W, JW cy a ba o w' → vW p l e room_1 s m args below meth c D vwCl A Q 7 (cells + 500) (slots + 10000) w' [some (.ref b), some (.ref (a 0 0)), some (.ref (ba 9)), some (.ref o), some (.int (nI i)), none, none] 2129 []) : vW p l e room_1 s m args below meth c D vwCl A Q 7 cells slots w [some (.ref b), some (.ref (a 0 0)), some (.ref (ba 9)), some (.ref o), some (.int (nI i)), none, none] 1264 [] := by
  have hX := hT.1.1
  obtain ⟨f, r, hf, hq, kn, ra, th, sm, n, v, hC, hB, hM, rfl⟩ := hJ
  refine r_aload_n C dL_law_1264 rfl ?_
  refine r_aload_n C dL_law_1265 rfl ?_
  refine r_iload C dL_law_1266 rfl ?_
  refine r_iconst (v := nI 1) C dL_law_1268 (by decide) ?_
  refine r_iaddN C dL_law_1269 ?_
  refine r_sld C hx hbl hbA (show i + 1 < L by omega) (by omega) dL_law_1270 ?_
  refine r_aload_n C dL_law_1271 rfl ?_
  refine r_iload C dL_law_1272 rfl ?_
  refine r_iconst (v := nI 2) C dL_law_1274 (by decide) ?_
  refine r_iaddN C dL_law_1275 ?_
  refine r_sld C hx hbl hbA (show i + 2 < L by omega) (by omega) dL_law_1276 ?_
  refine r_aload_n C dL_law_1277 rfl ?_
  refine c_SH (st := []) hX.1.stb C hE (W_lastIndexOf hX.1 hN hC hB hM (P_lastIndexOf hX hl hC hB hM (xs (i + 1)) (xs (i + 2)))) pk_L_lastIndexOf qm_L_256 rfl rfl (Nat.le_of_ble_eq_true rfl) dL_law_1278 ⟨(Nat.le_of_ble_eq_true rfl), (Nat.le_of_ble_eq_true rfl)⟩ ⟨show cells + 1 ≤ room_1.cells by omega, show slots + 6 ≤ room_1.slots by omega⟩ (fun v9 w9 h9 => ?_) (fun _ h9 => h9.elim)
  obtain ⟨f', r', k, n1, rfl, rfl, hf', hq', n2, hC', hB', hM', hk0, hk4, h2⟩ := h9
  refine r_istore C dL_law_1281 (by decide) rfl ?_
  refine r_aload_n C dL_law_1283 rfl ?_
  refine r_aload_n C dL_law_1284 rfl ?_
  refine r_iload C dL_law_1285 rfl ?_
  refine r_iconst (v := nI 1) C dL_law_1287 (by decide) ?_
  refine r_iaddN C dL_law_1288 ?_
  refine r_sld C hx hbl hbA (show i + 1 < L by omega) (by omega) dL_law_1289 ?_
  refine r_aload_n C dL_law_1290 rfl ?_
  refine r_iload C dL_law_1291 rfl ?_
  refine r_iconst (v := nI 2) C dL_law_1293 (by decide) ?_
  refine r_iaddN C dL_law_1294 ?_
  refine r_sld C hx hbl hbA (show i + 2 < L by omega) (by omega) dL_law_1295 ?_
  refine t_swap3 ?_
  refine c_V (st := []) hX.1.stb C hE (h2 _) pk_X4_lastIndexOf qm_L_258 0 8 rfl rfl wm_0 rfl rfl (Nat.le_of_ble_eq_true rfl) dL_law_1296 ⟨(Nat.le_of_ble_eq_true rfl), (Nat.le_of_ble_eq_true rfl)⟩ ⟨show cells + 1 + 4 ≤ room_1.cells by omega, show slots + 6 + 48 ≤ room_1.slots by omega⟩ (fun v9 w9 h9 => ?_) (fun _ h9 => h9.elim)
  obtain ⟨ra9, rfl, rfl⟩ := h9
  refine r_istore C dL_law_1299 (by decide) rfl ?_
  refine t_swap3 ?_
  refine r_goto (tgt := 2129) C dL_law_1301 (by decide) ?_
  refine r_widen (k := cells + 500) (n := slots + 10000) (show cells + 1 + 4 ≤ cells + 500 by omega) (show slots + 6 + 48 ≤ slots + 10000 by omega) ?_
  refine r_drop 5 ?_
  refine r_drop 6 ?_
  exact kk _ ⟨f', r', hf', hq', kn, ra9, _, sm, _, _, hC', hB', hM', rfl⟩
theorem S_contains {p : Program} {l : Launch} {e : Env} {s : State} {m : MethodId} {args : Array Value} {below : List Frame} {meth : Method} {c : Code} {D : va_G} {cy : Nat → ClassId} {A : Nat → Prop} {Q : State → Prop} {X : (Nat → Prop) → State → Heap → Prop} {aK aV : Nat → Nat} {tO tT : Nat} {gO gT : Nat → Int32} {a : Nat → Nat → Nat} {ba : Nat → Nat} {o b L i cells slots : Nat} {xs : Nat → Int32} {w : va_W} (C : Fg p s m args meth c cL_law 7 RL D cy A) (hE : X A s s.heap) (hT : EnvT X cy aK aV tO tT gO gT) (hN : EnvN X) (hl : l.stackTraces = false) (hx : va_X b L xs s s.heap) (hbl : b < s.heap.size) (hbA : ¬ A b) (hi : i + 5 ≤ L) (hL : L ≤ 2560) (hc : cells + 500 ≤ room_1.cells) (hs : slots + 10000 ≤ room_1.slots) (hJ : JW cy a ba o w) (kk : ∀ w' : va_W, JW cy a ba o w' → vW p l e room_1 s m args below meth c D vwCl A Q 7 (cells + 500) (slots + 10000) w' [some (.ref b), some (.ref (a 0 0)), some (.ref (ba 9)), some (.ref o), some (.int (nI i)), none, none] 2129 []) : vW p l e room_1 s m args below meth c D vwCl A Q 7 cells slots w [some (.ref b), some (.ref (a 0 0)), some (.ref (ba 9)), some (.ref o), some (.int (nI i)), none, none] 1304 [] := by
  have hX := hT.1.1
  obtain ⟨f, r, hf, hq, kn, ra, th, sm, n, v, hC, hB, hM, rfl⟩ := hJ
  refine r_aload_n C dL_law_1304 rfl ?_
  refine r_aload_n C dL_law_1305 rfl ?_
  refine r_iload C dL_law_1306 rfl ?_
  refine r_iconst (v := nI 1) C dL_law_1308 (by decide) ?_
  refine r_iaddN C dL_law_1309 ?_
  refine r_sld C hx hbl hbA (show i + 1 < L by omega) (by omega) dL_law_1310 ?_
  refine r_aload_n C dL_law_1311 rfl ?_
  refine r_iload C dL_law_1312 rfl ?_
  refine r_iconst (v := nI 2) C dL_law_1314 (by decide) ?_
  refine r_iaddN C dL_law_1315 ?_
  refine r_sld C hx hbl hbA (show i + 2 < L by omega) (by omega) dL_law_1316 ?_
  refine r_aload_n C dL_law_1317 rfl ?_
  refine c_SH (st := []) hX.1.stb C hE (W_contains hX.1 hN hC hB hM (P_contains hX hl hC hB hM (xs (i + 1)) (xs (i + 2)))) pk_L_contains qm_L_259 rfl rfl (Nat.le_of_ble_eq_true rfl) dL_law_1318 ⟨(Nat.le_of_ble_eq_true rfl), (Nat.le_of_ble_eq_true rfl)⟩ ⟨show cells + 1 ≤ room_1.cells by omega, show slots + 6 ≤ room_1.slots by omega⟩ (fun v9 w9 h9 => ?_) (fun _ h9 => h9.elim)
  obtain ⟨f', r', k, n1, rfl, rfl, hf', hq', n2, hC', hB', hM', hk0, hk4, h2⟩ := h9
  refine r_istore C dL_law_1321 (by decide) rfl ?_
  refine r_aload_n C dL_law_1323 rfl ?_
  refine r_aload_n C dL_law_1324 rfl ?_
  refine r_iload C dL_law_1325 rfl ?_
  refine r_iconst (v := nI 1) C dL_law_1327 (by decide) ?_
  refine r_iaddN C dL_law_1328 ?_
  refine r_sld C hx hbl hbA (show i + 1 < L by omega) (by omega) dL_law_1329 ?_
  refine r_aload_n C dL_law_1330 rfl ?_
  refine r_iload C dL_law_1331 rfl ?_
  refine r_iconst (v := nI 2) C dL_law_1333 (by decide) ?_
  refine r_iaddN C dL_law_1334 ?_
  refine r_sld C hx hbl hbA (show i + 2 < L by omega) (by omega) dL_law_1335 ?_
  refine t_swap3 ?_
  refine c_V (st := []) hX.1.stb C hE (h2 _) pk_X4_contains qm_L_261 0 8 rfl rfl wm_0 rfl rfl (Nat.le_of_ble_eq_true rfl) dL_law_1336 ⟨(Nat.le_of_ble_eq_true rfl), (Nat.le_of_ble_eq_true rfl)⟩ ⟨show cells + 1 + 4 ≤ room_1.cells by omega, show slots + 6 + 48 ≤ room_1.slots by omega⟩ (fun v9 w9 h9 => ?_) (fun _ h9 => h9.elim)
  obtain ⟨ra9, rfl, rfl⟩ := h9
  refine r_istore C dL_law_1339 (by decide) rfl ?_
  refine t_swap3 ?_
  refine r_goto (tgt := 2129) C dL_law_1341 (by decide) ?_
  refine r_widen (k := cells + 500) (n := slots + 10000) (show cells + 1 + 4 ≤ cells + 500 by omega) (show slots + 6 + 48 ≤ slots + 10000 by omega) ?_
  refine r_drop 5 ?_
  refine r_drop 6 ?_
  exact kk _ ⟨f', r', hf', hq', kn, ra9, _, sm, _, _, hC', hB', hM', rfl⟩
theorem S_howOften {p : Program} {l : Launch} {e : Env} {s : State} {m : MethodId} {args : Array Value} {below : List Frame} {meth : Method} {c : Code} {D : va_G} {cy : Nat → ClassId} {A : Nat → Prop} {Q : State → Prop} {X : (Nat → Prop) → State → Heap → Prop} {aK aV : Nat → Nat} {tO tT : Nat} {gO gT : Nat → Int32} {a : Nat → Nat → Nat} {ba : Nat → Nat} {o b L i cells slots : Nat} {xs : Nat → Int32} {w : va_W} (C : Fg p s m args meth c cL_law 7 RL D cy A) (hE : X A s s.heap) (hT : EnvT X cy aK aV tO tT gO gT) (hN : EnvN X) (hl : l.stackTraces = false) (hx : va_X b L xs s s.heap) (hbl : b < s.heap.size) (hbA : ¬ A b) (hi : i + 5 ≤ L) (hL : L ≤ 2560) (hc : cells + 500 ≤ room_1.cells) (hs : slots + 10000 ≤ room_1.slots) (hJ : JW cy a ba o w) (kk : ∀ w' : va_W, JW cy a ba o w' → vW p l e room_1 s m args below meth c D vwCl A Q 7 (cells + 500) (slots + 10000) w' [some (.ref b), some (.ref (a 0 0)), some (.ref (ba 9)), some (.ref o), some (.int (nI i)), none, none] 2129 []) : vW p l e room_1 s m args below meth c D vwCl A Q 7 cells slots w [some (.ref b), some (.ref (a 0 0)), some (.ref (ba 9)), some (.ref o), some (.int (nI i)), none, none] 1344 [] := by
  have hX := hT.1.1
  obtain ⟨f, r, hf, hq, kn, ra, th, sm, n, v, hC, hB, hM, rfl⟩ := hJ
  refine r_aload_n C dL_law_1344 rfl ?_
  refine r_aload_n C dL_law_1345 rfl ?_
  refine r_iload C dL_law_1346 rfl ?_
  refine r_iconst (v := nI 1) C dL_law_1348 (by decide) ?_
  refine r_iaddN C dL_law_1349 ?_
  refine r_sld C hx hbl hbA (show i + 1 < L by omega) (by omega) dL_law_1350 ?_
  refine r_aload_n C dL_law_1351 rfl ?_
  refine r_iload C dL_law_1352 rfl ?_
  refine r_iconst (v := nI 2) C dL_law_1354 (by decide) ?_
  refine r_iaddN C dL_law_1355 ?_
  refine r_sld C hx hbl hbA (show i + 2 < L by omega) (by omega) dL_law_1356 ?_
  refine r_aload_n C dL_law_1357 rfl ?_
  refine c_SH (st := []) hX.1.stb C hE (W_howOften hX.1 hN hC hB hM (P_howOften hX hl hC hB hM (xs (i + 1)) (xs (i + 2)))) pk_L_howOften qm_L_262 rfl rfl (Nat.le_of_ble_eq_true rfl) dL_law_1358 ⟨(Nat.le_of_ble_eq_true rfl), (Nat.le_of_ble_eq_true rfl)⟩ ⟨show cells + 1 ≤ room_1.cells by omega, show slots + 6 ≤ room_1.slots by omega⟩ (fun v9 w9 h9 => ?_) (fun _ h9 => h9.elim)
  obtain ⟨f', r', k, n1, rfl, rfl, hf', hq', n2, hC', hB', hM', hk0, hk4, h2⟩ := h9
  refine r_istore C dL_law_1361 (by decide) rfl ?_
  refine r_aload_n C dL_law_1363 rfl ?_
  refine r_aload_n C dL_law_1364 rfl ?_
  refine r_iload C dL_law_1365 rfl ?_
  refine r_iconst (v := nI 1) C dL_law_1367 (by decide) ?_
  refine r_iaddN C dL_law_1368 ?_
  refine r_sld C hx hbl hbA (show i + 1 < L by omega) (by omega) dL_law_1369 ?_
  refine r_aload_n C dL_law_1370 rfl ?_
  refine r_iload C dL_law_1371 rfl ?_
  refine r_iconst (v := nI 2) C dL_law_1373 (by decide) ?_
  refine r_iaddN C dL_law_1374 ?_
  refine r_sld C hx hbl hbA (show i + 2 < L by omega) (by omega) dL_law_1375 ?_
  refine t_swap3 ?_
  refine c_V (st := []) hX.1.stb C hE (h2 _) pk_X4_howOften qm_L_264 0 8 rfl rfl wm_0 rfl rfl (Nat.le_of_ble_eq_true rfl) dL_law_1376 ⟨(Nat.le_of_ble_eq_true rfl), (Nat.le_of_ble_eq_true rfl)⟩ ⟨show cells + 1 + 4 ≤ room_1.cells by omega, show slots + 6 + 48 ≤ room_1.slots by omega⟩ (fun v9 w9 h9 => ?_) (fun _ h9 => h9.elim)
  obtain ⟨ra9, rfl, rfl⟩ := h9
  refine r_istore C dL_law_1379 (by decide) rfl ?_
  refine t_swap3 ?_
  refine r_goto (tgt := 2129) C dL_law_1381 (by decide) ?_
  refine r_widen (k := cells + 500) (n := slots + 10000) (show cells + 1 + 4 ≤ cells + 500 by omega) (show slots + 6 + 48 ≤ slots + 10000 by omega) ?_
  refine r_drop 5 ?_
  refine r_drop 6 ?_
  exact kk _ ⟨f', r', hf', hq', kn, ra9, _, sm, _, _, hC', hB', hM', rfl⟩
theorem S_least {p : Program} {l : Launch} {e : Env} {s : State} {m : MethodId} {args : Array Value} {below : List Frame} {meth : Method} {c : Code} {D : va_G} {cy : Nat → ClassId} {A : Nat → Prop} {Q : State → Prop} {X : (Nat → Prop) → State → Heap → Prop} {aK aV : Nat → Nat} {tO tT : Nat} {gO gT : Nat → Int32} {a : Nat → Nat → Nat} {ba : Nat → Nat} {o b L i cells slots : Nat} {xs : Nat → Int32} {w : va_W} (C : Fg p s m args meth c cL_law 7 RL D cy A) (hE : X A s s.heap) (hT : EnvT X cy aK aV tO tT gO gT) (hN : EnvN X) (hl : l.stackTraces = false) (hx : va_X b L xs s s.heap) (hbl : b < s.heap.size) (hbA : ¬ A b) (hi : i + 5 ≤ L) (hL : L ≤ 2560) (hc : cells + 500 ≤ room_1.cells) (hs : slots + 10000 ≤ room_1.slots) (hJ : JW cy a ba o w) (kk : ∀ w' : va_W, JW cy a ba o w' → vW p l e room_1 s m args below meth c D vwCl A Q 7 (cells + 500) (slots + 10000) w' [some (.ref b), some (.ref (a 0 0)), some (.ref (ba 9)), some (.ref o), some (.int (nI i)), none, none] 2129 []) : vW p l e room_1 s m args below meth c D vwCl A Q 7 cells slots w [some (.ref b), some (.ref (a 0 0)), some (.ref (ba 9)), some (.ref o), some (.int (nI i)), none, none] 1384 [] := by
  by_cases h0 : xs (i + 2) = 0
  · skip
    have hX := hT.1.1
    obtain ⟨f, r, hf, hq, kn, ra, th, sm, n, v, hC, hB, hM, rfl⟩ := hJ
    refine r_aload_n C dL_law_1384 rfl ?_
    refine r_aload_n C dL_law_1385 rfl ?_
    refine r_iload C dL_law_1386 rfl ?_
    refine r_iconst (v := nI 1) C dL_law_1388 (by decide) ?_
    refine r_iaddN C dL_law_1389 ?_
    refine r_sld C hx hbl hbA (show i + 1 < L by omega) (by omega) dL_law_1390 ?_
    refine r_aload_n C dL_law_1391 rfl ?_
    refine r_iload C dL_law_1392 rfl ?_
    refine r_iconst (v := nI 2) C dL_law_1394 (by decide) ?_
    refine r_iaddN C dL_law_1395 ?_
    refine r_sld C hx hbl hbA (show i + 2 < L by omega) (by omega) dL_law_1396 ?_
    refine r_if_eq (tgt := 1404) C dL_law_1397 (by decide) (fun _ => ?_) (fun hne => absurd h0 hne)
    refine r_iconst (v := nI 0) C dL_law_1404 (by decide) ?_
    refine r_aload_n C dL_law_1405 rfl ?_
    refine c_SH (st := []) hX.1.stb C hE (W_least hX.1 hN hC hB hM (P_least hX hl hC hB hM (xs (i + 1)) (b0 := 0) (by decide))) pk_L_least qm_L_265 rfl rfl (Nat.le_of_ble_eq_true rfl) dL_law_1406 ⟨(Nat.le_of_ble_eq_true rfl), (Nat.le_of_ble_eq_true rfl)⟩ ⟨show cells + 1 ≤ room_1.cells by omega, show slots + 6 ≤ room_1.slots by omega⟩ (fun v9 w9 h9 => ?_) (fun _ h9 => h9.elim)
    obtain ⟨f', r', k, n1, rfl, rfl, hf', hq', n2, hC', hB', hM', hk0, hk4, h2⟩ := h9
    refine r_istore C dL_law_1409 (by decide) rfl ?_
    refine r_aload_n C dL_law_1411 rfl ?_
    refine r_aload_n C dL_law_1412 rfl ?_
    refine r_iload C dL_law_1413 rfl ?_
    refine r_iconst (v := nI 1) C dL_law_1415 (by decide) ?_
    refine r_iaddN C dL_law_1416 ?_
    refine r_sld C hx hbl hbA (show i + 1 < L by omega) (by omega) dL_law_1417 ?_
    refine r_aload_n C dL_law_1418 rfl ?_
    refine r_iload C dL_law_1419 rfl ?_
    refine r_iconst (v := nI 2) C dL_law_1421 (by decide) ?_
    refine r_iaddN C dL_law_1422 ?_
    refine r_sld C hx hbl hbA (show i + 2 < L by omega) (by omega) dL_law_1423 ?_
    refine r_if_eq (tgt := 1431) C dL_law_1424 (by decide) (fun _ => ?_) (fun hne => absurd h0 hne)
    refine r_iconst (v := nI 0) C dL_law_1431 (by decide) ?_
    refine t_swap3 ?_
    refine c_V (st := []) hX.1.stb C hE (h2 _) pk_X4_least qm_L_268 0 8 rfl rfl wm_0 rfl rfl (Nat.le_of_ble_eq_true rfl) dL_law_1432 ⟨(Nat.le_of_ble_eq_true rfl), (Nat.le_of_ble_eq_true rfl)⟩ ⟨show cells + 1 + 4 ≤ room_1.cells by omega, show slots + 6 + 48 ≤ room_1.slots by omega⟩ (fun v9 w9 h9 => ?_) (fun _ h9 => h9.elim)
    obtain ⟨ra9, rfl, rfl⟩ := h9
    refine r_istore C dL_law_1435 (by decide) rfl ?_
    refine t_swap3 ?_
    refine r_goto (tgt := 2129) C dL_law_1437 (by decide) ?_
    refine r_widen (k := cells + 500) (n := slots + 10000) (show cells + 1 + 4 ≤ cells + 500 by omega) (show slots + 6 + 48 ≤ slots + 10000 by omega) ?_
    refine r_drop 5 ?_
    refine r_drop 6 ?_
    exact kk _ ⟨f', r', hf', hq', kn, ra9, _, sm, _, _, hC', hB', hM', rfl⟩
  · skip
    have hX := hT.1.1
    obtain ⟨f, r, hf, hq, kn, ra, th, sm, n, v, hC, hB, hM, rfl⟩ := hJ
    refine r_aload_n C dL_law_1384 rfl ?_
    refine r_aload_n C dL_law_1385 rfl ?_
    refine r_iload C dL_law_1386 rfl ?_
    refine r_iconst (v := nI 1) C dL_law_1388 (by decide) ?_
    refine r_iaddN C dL_law_1389 ?_
    refine r_sld C hx hbl hbA (show i + 1 < L by omega) (by omega) dL_law_1390 ?_
    refine r_aload_n C dL_law_1391 rfl ?_
    refine r_iload C dL_law_1392 rfl ?_
    refine r_iconst (v := nI 2) C dL_law_1394 (by decide) ?_
    refine r_iaddN C dL_law_1395 ?_
    refine r_sld C hx hbl hbA (show i + 2 < L by omega) (by omega) dL_law_1396 ?_
    refine r_if_eq (tgt := 1404) C dL_law_1397 (by decide) (fun he => absurd he h0) (fun _ => ?_)
    refine r_iconst (v := nI 1) C dL_law_1400 (by decide) ?_
    refine r_goto (tgt := 1405) C dL_law_1401 (by decide) ?_
    refine r_aload_n C dL_law_1405 rfl ?_
    refine c_SH (st := []) hX.1.stb C hE (W_least hX.1 hN hC hB hM (P_least hX hl hC hB hM (xs (i + 1)) (b0 := 1) (by decide))) pk_L_least qm_L_265 rfl rfl (Nat.le_of_ble_eq_true rfl) dL_law_1406 ⟨(Nat.le_of_ble_eq_true rfl), (Nat.le_of_ble_eq_true rfl)⟩ ⟨show cells + 1 ≤ room_1.cells by omega, show slots + 6 ≤ room_1.slots by omega⟩ (fun v9 w9 h9 => ?_) (fun _ h9 => h9.elim)
    obtain ⟨f', r', k, n1, rfl, rfl, hf', hq', n2, hC', hB', hM', hk0, hk4, h2⟩ := h9
    refine r_istore C dL_law_1409 (by decide) rfl ?_
    refine r_aload_n C dL_law_1411 rfl ?_
    refine r_aload_n C dL_law_1412 rfl ?_
    refine r_iload C dL_law_1413 rfl ?_
    refine r_iconst (v := nI 1) C dL_law_1415 (by decide) ?_
    refine r_iaddN C dL_law_1416 ?_
    refine r_sld C hx hbl hbA (show i + 1 < L by omega) (by omega) dL_law_1417 ?_
    refine r_aload_n C dL_law_1418 rfl ?_
    refine r_iload C dL_law_1419 rfl ?_
    refine r_iconst (v := nI 2) C dL_law_1421 (by decide) ?_
    refine r_iaddN C dL_law_1422 ?_
    refine r_sld C hx hbl hbA (show i + 2 < L by omega) (by omega) dL_law_1423 ?_
    refine r_if_eq (tgt := 1431) C dL_law_1424 (by decide) (fun he => absurd he h0) (fun _ => ?_)
    refine r_iconst (v := nI 1) C dL_law_1427 (by decide) ?_
    refine r_goto (tgt := 1432) C dL_law_1428 (by decide) ?_
    refine t_swap3 ?_
    refine c_V (st := []) hX.1.stb C hE (h2 _) pk_X4_least qm_L_268 0 8 rfl rfl wm_0 rfl rfl (Nat.le_of_ble_eq_true rfl) dL_law_1432 ⟨(Nat.le_of_ble_eq_true rfl), (Nat.le_of_ble_eq_true rfl)⟩ ⟨show cells + 1 + 4 ≤ room_1.cells by omega, show slots + 6 + 48 ≤ room_1.slots by omega⟩ (fun v9 w9 h9 => ?_) (fun _ h9 => h9.elim)
    obtain ⟨ra9, rfl, rfl⟩ := h9
    refine r_istore C dL_law_1435 (by decide) rfl ?_
    refine t_swap3 ?_
    refine r_goto (tgt := 2129) C dL_law_1437 (by decide) ?_
    refine r_widen (k := cells + 500) (n := slots + 10000) (show cells + 1 + 4 ≤ cells + 500 by omega) (show slots + 6 + 48 ≤ slots + 10000 by omega) ?_
    refine r_drop 5 ?_
    refine r_drop 6 ?_
    exact kk _ ⟨f', r', hf', hq', kn, ra9, _, sm, _, _, hC', hB', hM', rfl⟩
theorem S_areApart {p : Program} {l : Launch} {e : Env} {s : State} {m : MethodId} {args : Array Value} {below : List Frame} {meth : Method} {c : Code} {D : va_G} {cy : Nat → ClassId} {A : Nat → Prop} {Q : State → Prop} {X : (Nat → Prop) → State → Heap → Prop} {aK aV : Nat → Nat} {tO tT : Nat} {gO gT : Nat → Int32} {a : Nat → Nat → Nat} {ba : Nat → Nat} {o b L i cells slots : Nat} {xs : Nat → Int32} {w : va_W} (C : Fg p s m args meth c cL_law 7 RL D cy A) (hE : X A s s.heap) (hT : EnvT X cy aK aV tO tT gO gT) (hN : EnvN X) (hl : l.stackTraces = false) (hx : va_X b L xs s s.heap) (hbl : b < s.heap.size) (hbA : ¬ A b) (hi : i + 5 ≤ L) (hL : L ≤ 2560) (hc : cells + 500 ≤ room_1.cells) (hs : slots + 10000 ≤ room_1.slots) (hJ : JW cy a ba o w) (kk : ∀ w' : va_W, JW cy a ba o w' → vW p l e room_1 s m args below meth c D vwCl A Q 7 (cells + 500) (slots + 10000) w' [some (.ref b), some (.ref (a 0 0)), some (.ref (ba 9)), some (.ref o), some (.int (nI i)), none, none] 2129 []) : vW p l e room_1 s m args below meth c D vwCl A Q 7 cells slots w [some (.ref b), some (.ref (a 0 0)), some (.ref (ba 9)), some (.ref o), some (.int (nI i)), none, none] 1440 [] := by
  have hX := hT.1.1
  obtain ⟨f, r, hf, hq, kn, ra, th, sm, n, v, hC, hB, hM, rfl⟩ := hJ
  refine r_aload_n C dL_law_1440 rfl ?_
  refine r_aload_n C dL_law_1441 rfl ?_
  refine r_iload C dL_law_1442 rfl ?_
  refine r_iconst (v := nI 1) C dL_law_1444 (by decide) ?_
  refine r_iaddN C dL_law_1445 ?_
  refine r_sld C hx hbl hbA (show i + 1 < L by omega) (by omega) dL_law_1446 ?_
  refine r_aload_n C dL_law_1447 rfl ?_
  refine r_iload C dL_law_1448 rfl ?_
  refine r_iconst (v := nI 2) C dL_law_1450 (by decide) ?_
  refine r_iaddN C dL_law_1451 ?_
  refine r_sld C hx hbl hbA (show i + 2 < L by omega) (by omega) dL_law_1452 ?_
  refine r_aload_n C dL_law_1453 rfl ?_
  refine c_SH (st := []) hX.1.stb C hE (W_areApart hX.1 hN hC hB hM (P_areApart hX hl hC hB hM (xs (i + 1)) (xs (i + 2)))) pk_L_areApart qm_L_269 rfl rfl (Nat.le_of_ble_eq_true rfl) dL_law_1454 ⟨(Nat.le_of_ble_eq_true rfl), (Nat.le_of_ble_eq_true rfl)⟩ ⟨show cells + 1 ≤ room_1.cells by omega, show slots + 6 ≤ room_1.slots by omega⟩ (fun v9 w9 h9 => ?_) (fun _ h9 => h9.elim)
  obtain ⟨f', r', k, n1, rfl, rfl, hf', hq', n2, hC', hB', hM', hk0, hk4, h2⟩ := h9
  refine r_istore C dL_law_1457 (by decide) rfl ?_
  refine r_aload_n C dL_law_1459 rfl ?_
  refine r_aload_n C dL_law_1460 rfl ?_
  refine r_iload C dL_law_1461 rfl ?_
  refine r_iconst (v := nI 1) C dL_law_1463 (by decide) ?_
  refine r_iaddN C dL_law_1464 ?_
  refine r_sld C hx hbl hbA (show i + 1 < L by omega) (by omega) dL_law_1465 ?_
  refine r_aload_n C dL_law_1466 rfl ?_
  refine r_iload C dL_law_1467 rfl ?_
  refine r_iconst (v := nI 2) C dL_law_1469 (by decide) ?_
  refine r_iaddN C dL_law_1470 ?_
  refine r_sld C hx hbl hbA (show i + 2 < L by omega) (by omega) dL_law_1471 ?_
  refine t_swap3 ?_
  refine c_V (st := []) hX.1.stb C hE (h2 _) pk_X4_areApart qm_L_271 0 8 rfl rfl wm_0 rfl rfl (Nat.le_of_ble_eq_true rfl) dL_law_1472 ⟨(Nat.le_of_ble_eq_true rfl), (Nat.le_of_ble_eq_true rfl)⟩ ⟨show cells + 1 + 4 ≤ room_1.cells by omega, show slots + 6 + 48 ≤ room_1.slots by omega⟩ (fun v9 w9 h9 => ?_) (fun _ h9 => h9.elim)
  obtain ⟨ra9, rfl, rfl⟩ := h9
  refine r_istore C dL_law_1475 (by decide) rfl ?_
  refine t_swap3 ?_
  refine r_goto (tgt := 2129) C dL_law_1477 (by decide) ?_
  refine r_widen (k := cells + 500) (n := slots + 10000) (show cells + 1 + 4 ≤ cells + 500 by omega) (show slots + 6 + 48 ≤ slots + 10000 by omega) ?_
  refine r_drop 5 ?_
  refine r_drop 6 ?_
  exact kk _ ⟨f', r', hf', hq', kn, ra9, _, sm, _, _, hC', hB', hM', rfl⟩
theorem S_areSame {p : Program} {l : Launch} {e : Env} {s : State} {m : MethodId} {args : Array Value} {below : List Frame} {meth : Method} {c : Code} {D : va_G} {cy : Nat → ClassId} {A : Nat → Prop} {Q : State → Prop} {X : (Nat → Prop) → State → Heap → Prop} {aK aV : Nat → Nat} {tO tT : Nat} {gO gT : Nat → Int32} {a : Nat → Nat → Nat} {ba : Nat → Nat} {o b L i cells slots : Nat} {xs : Nat → Int32} {w : va_W} (C : Fg p s m args meth c cL_law 7 RL D cy A) (hE : X A s s.heap) (hT : EnvT X cy aK aV tO tT gO gT) (hN : EnvN X) (hl : l.stackTraces = false) (hx : va_X b L xs s s.heap) (hbl : b < s.heap.size) (hbA : ¬ A b) (hi : i + 5 ≤ L) (hL : L ≤ 2560) (hc : cells + 500 ≤ room_1.cells) (hs : slots + 10000 ≤ room_1.slots) (hJ : JW cy a ba o w) (kk : ∀ w' : va_W, JW cy a ba o w' → vW p l e room_1 s m args below meth c D vwCl A Q 7 (cells + 500) (slots + 10000) w' [some (.ref b), some (.ref (a 0 0)), some (.ref (ba 9)), some (.ref o), some (.int (nI i)), none, none] 2129 []) : vW p l e room_1 s m args below meth c D vwCl A Q 7 cells slots w [some (.ref b), some (.ref (a 0 0)), some (.ref (ba 9)), some (.ref o), some (.int (nI i)), none, none] 1480 [] := by
  have hX := hT.1.1
  obtain ⟨f, r, hf, hq, kn, ra, th, sm, n, v, hC, hB, hM, rfl⟩ := hJ
  refine r_aload_n C dL_law_1480 rfl ?_
  refine r_aload_n C dL_law_1481 rfl ?_
  refine r_iload C dL_law_1482 rfl ?_
  refine r_iconst (v := nI 1) C dL_law_1484 (by decide) ?_
  refine r_iaddN C dL_law_1485 ?_
  refine r_sld C hx hbl hbA (show i + 1 < L by omega) (by omega) dL_law_1486 ?_
  refine r_aload_n C dL_law_1487 rfl ?_
  refine r_iload C dL_law_1488 rfl ?_
  refine r_iconst (v := nI 2) C dL_law_1490 (by decide) ?_
  refine r_iaddN C dL_law_1491 ?_
  refine r_sld C hx hbl hbA (show i + 2 < L by omega) (by omega) dL_law_1492 ?_
  refine r_aload_n C dL_law_1493 rfl ?_
  refine c_SH (st := []) hX.1.stb C hE (W_areSame hX.1 hN hC hB hM (P_areSame hX hl hC hB hM (xs (i + 1)) (xs (i + 2)))) pk_L_areSame qm_L_272 rfl rfl (Nat.le_of_ble_eq_true rfl) dL_law_1494 ⟨(Nat.le_of_ble_eq_true rfl), (Nat.le_of_ble_eq_true rfl)⟩ ⟨show cells + 1 ≤ room_1.cells by omega, show slots + 6 ≤ room_1.slots by omega⟩ (fun v9 w9 h9 => ?_) (fun _ h9 => h9.elim)
  obtain ⟨f', r', k, n1, rfl, rfl, hf', hq', n2, hC', hB', hM', hk0, hk4, h2⟩ := h9
  refine r_istore C dL_law_1497 (by decide) rfl ?_
  refine r_aload_n C dL_law_1499 rfl ?_
  refine r_aload_n C dL_law_1500 rfl ?_
  refine r_iload C dL_law_1501 rfl ?_
  refine r_iconst (v := nI 1) C dL_law_1503 (by decide) ?_
  refine r_iaddN C dL_law_1504 ?_
  refine r_sld C hx hbl hbA (show i + 1 < L by omega) (by omega) dL_law_1505 ?_
  refine r_aload_n C dL_law_1506 rfl ?_
  refine r_iload C dL_law_1507 rfl ?_
  refine r_iconst (v := nI 2) C dL_law_1509 (by decide) ?_
  refine r_iaddN C dL_law_1510 ?_
  refine r_sld C hx hbl hbA (show i + 2 < L by omega) (by omega) dL_law_1511 ?_
  refine t_swap3 ?_
  refine c_V (st := []) hX.1.stb C hE (h2 _) pk_X4_areSame qm_L_274 0 8 rfl rfl wm_0 rfl rfl (Nat.le_of_ble_eq_true rfl) dL_law_1512 ⟨(Nat.le_of_ble_eq_true rfl), (Nat.le_of_ble_eq_true rfl)⟩ ⟨show cells + 1 + 4 ≤ room_1.cells by omega, show slots + 6 + 48 ≤ room_1.slots by omega⟩ (fun v9 w9 h9 => ?_) (fun _ h9 => h9.elim)
  obtain ⟨ra9, rfl, rfl⟩ := h9
  refine r_istore C dL_law_1515 (by decide) rfl ?_
  refine t_swap3 ?_
  refine r_goto (tgt := 2129) C dL_law_1517 (by decide) ?_
  refine r_widen (k := cells + 500) (n := slots + 10000) (show cells + 1 + 4 ≤ cells + 500 by omega) (show slots + 6 + 48 ≤ slots + 10000 by omega) ?_
  refine r_drop 5 ?_
  refine r_drop 6 ?_
  exact kk _ ⟨f', r', hf', hq', kn, ra9, _, sm, _, _, hC', hB', hM', rfl⟩
theorem S_hash {p : Program} {l : Launch} {e : Env} {s : State} {m : MethodId} {args : Array Value} {below : List Frame} {meth : Method} {c : Code} {D : va_G} {cy : Nat → ClassId} {A : Nat → Prop} {Q : State → Prop} {X : (Nat → Prop) → State → Heap → Prop} {aK aV : Nat → Nat} {tO tT : Nat} {gO gT : Nat → Int32} {a : Nat → Nat → Nat} {ba : Nat → Nat} {o b L i cells slots : Nat} {xs : Nat → Int32} {w : va_W} (C : Fg p s m args meth c cL_law 7 RL D cy A) (hE : X A s s.heap) (hT : EnvT X cy aK aV tO tT gO gT) (hN : EnvN X) (hl : l.stackTraces = false) (hx : va_X b L xs s s.heap) (hbl : b < s.heap.size) (hbA : ¬ A b) (hi : i + 5 ≤ L) (hL : L ≤ 2560) (hc : cells + 500 ≤ room_1.cells) (hs : slots + 10000 ≤ room_1.slots) (hJ : JW cy a ba o w) (kk : ∀ w' : va_W, JW cy a ba o w' → vW p l e room_1 s m args below meth c D vwCl A Q 7 (cells + 500) (slots + 10000) w' [some (.ref b), some (.ref (a 0 0)), some (.ref (ba 9)), some (.ref o), some (.int (nI i)), none, none] 2129 []) : vW p l e room_1 s m args below meth c D vwCl A Q 7 cells slots w [some (.ref b), some (.ref (a 0 0)), some (.ref (ba 9)), some (.ref o), some (.int (nI i)), none, none] 1520 [] := by
  have hX := hT.1.1
  obtain ⟨f, r, hf, hq, kn, ra, th, sm, n, v, hC, hB, hM, rfl⟩ := hJ
  refine r_aload_n C dL_law_1520 rfl ?_
  refine r_aload_n C dL_law_1521 rfl ?_
  refine r_iload C dL_law_1522 rfl ?_
  refine r_iconst (v := nI 1) C dL_law_1524 (by decide) ?_
  refine r_iaddN C dL_law_1525 ?_
  refine r_sld C hx hbl hbA (show i + 1 < L by omega) (by omega) dL_law_1526 ?_
  refine r_aload_n C dL_law_1527 rfl ?_
  refine c_SH (st := []) hX.1.stb C hE (W_hash hX.1 hN hC hB hM (P_hash hX hl hC hB hM (xs (i + 1)))) pk_L_hash qm_L_275 rfl rfl (Nat.le_of_ble_eq_true rfl) dL_law_1528 ⟨(Nat.le_of_ble_eq_true rfl), (Nat.le_of_ble_eq_true rfl)⟩ ⟨show cells + 1 ≤ room_1.cells by omega, show slots + 6 ≤ room_1.slots by omega⟩ (fun v9 w9 h9 => ?_) (fun _ h9 => h9.elim)
  obtain ⟨f', r', k, n1, rfl, rfl, hf', hq', n2, hC', hB', hM', hk0, hk4, h2⟩ := h9
  refine r_istore C dL_law_1531 (by decide) rfl ?_
  refine r_aload_n C dL_law_1533 rfl ?_
  refine r_aload_n C dL_law_1534 rfl ?_
  refine r_iload C dL_law_1535 rfl ?_
  refine r_iconst (v := nI 1) C dL_law_1537 (by decide) ?_
  refine r_iaddN C dL_law_1538 ?_
  refine r_sld C hx hbl hbA (show i + 1 < L by omega) (by omega) dL_law_1539 ?_
  refine t_swap3 ?_
  refine c_V (st := []) hX.1.stb C hE (h2 _) pk_X4_hash qm_L_277 0 8 rfl rfl wm_0 rfl rfl (Nat.le_of_ble_eq_true rfl) dL_law_1540 ⟨(Nat.le_of_ble_eq_true rfl), (Nat.le_of_ble_eq_true rfl)⟩ ⟨show cells + 1 + 4 ≤ room_1.cells by omega, show slots + 6 + 48 ≤ room_1.slots by omega⟩ (fun v9 w9 h9 => ?_) (fun _ h9 => h9.elim)
  obtain ⟨ra9, rfl, rfl⟩ := h9
  refine r_istore C dL_law_1543 (by decide) rfl ?_
  refine t_swap3 ?_
  refine r_goto (tgt := 2129) C dL_law_1545 (by decide) ?_
  refine r_widen (k := cells + 500) (n := slots + 10000) (show cells + 1 + 4 ≤ cells + 500 by omega) (show slots + 6 + 48 ≤ slots + 10000 by omega) ?_
  refine r_drop 5 ?_
  refine r_drop 6 ?_
  exact kk _ ⟨f', r', hf', hq', kn, ra9, _, sm, _, _, hC', hB', hM', rfl⟩
theorem S_text {p : Program} {l : Launch} {e : Env} {s : State} {m : MethodId} {args : Array Value} {below : List Frame} {meth : Method} {c : Code} {D : va_G} {cy : Nat → ClassId} {A : Nat → Prop} {Q : State → Prop} {X : (Nat → Prop) → State → Heap → Prop} {aK aV : Nat → Nat} {tO tT : Nat} {gO gT : Nat → Int32} {a : Nat → Nat → Nat} {ba : Nat → Nat} {o b L i cells slots : Nat} {xs : Nat → Int32} {w : va_W} (C : Fg p s m args meth c cL_law 7 RL D cy A) (hE : X A s s.heap) (hT : EnvT X cy aK aV tO tT gO gT) (hN : EnvN X) (hl : l.stackTraces = false) (hx : va_X b L xs s s.heap) (hbl : b < s.heap.size) (hbA : ¬ A b) (hi : i + 5 ≤ L) (hL : L ≤ 2560) (hc : cells + 500 ≤ room_1.cells) (hs : slots + 10000 ≤ room_1.slots) (hJ : JW cy a ba o w) (kk : ∀ w' : va_W, JW cy a ba o w' → vW p l e room_1 s m args below meth c D vwCl A Q 7 (cells + 500) (slots + 10000) w' [some (.ref b), some (.ref (a 0 0)), some (.ref (ba 9)), some (.ref o), some (.int (nI i)), none, none] 2129 []) : vW p l e room_1 s m args below meth c D vwCl A Q 7 cells slots w [some (.ref b), some (.ref (a 0 0)), some (.ref (ba 9)), some (.ref o), some (.int (nI i)), none, none] 1548 [] := by
  have hX := hT.1.1
  obtain ⟨f, r, hf, hq, kn, ra, th, sm, n, v, hC, hB, hM, rfl⟩ := hJ
  rcases n_dec (n := 4) (by omega) (xs (i + 1)) with hno | ⟨j, hj4, hj⟩
  · skip
    refine r_aload_n C dL_law_1548 rfl ?_
    refine r_aload_n C dL_law_1549 rfl ?_
    refine r_iload C dL_law_1550 rfl ?_
    refine r_iconst (v := nI 1) C dL_law_1552 (by decide) ?_
    refine r_iaddN C dL_law_1553 ?_
    refine r_sld C hx hbl hbA (show i + 1 < L by omega) (by omega) dL_law_1554 ?_
    refine r_aload_n C dL_law_1555 rfl ?_
    refine c_SH (st := []) hX.1.stb C hE (W_text_no hT.1 hl hC hno) pk_L_text qm_L_278 rfl rfl (Nat.le_of_ble_eq_true rfl) dL_law_1556 ⟨(Nat.le_of_ble_eq_true rfl), (Nat.le_of_ble_eq_true rfl)⟩ ⟨show cells + 6 ≤ room_1.cells by omega, show slots + 204 ≤ room_1.slots by omega⟩ (fun v9 w9 h9 => ?_) (fun _ h9 => h9.elim)
    obtain ⟨rfl, rfl⟩ := h9
    refine r_istore C dL_law_1559 (by decide) rfl ?_
    refine r_aload_n C dL_law_1561 rfl ?_
    refine r_aload_n C dL_law_1562 rfl ?_
    refine r_iload C dL_law_1563 rfl ?_
    refine r_iconst (v := nI 1) C dL_law_1565 (by decide) ?_
    refine r_iaddN C dL_law_1566 ?_
    refine r_sld C hx hbl hbA (show i + 1 < L by omega) (by omega) dL_law_1567 ?_
    refine t_swap3 ?_
    refine c_V (st := []) hX.1.stb C hE (D_text_noR hT.1 hno) pk_X4_text qm_L_280 0 8 rfl rfl wm_0 rfl rfl (Nat.le_of_ble_eq_true rfl) dL_law_1568 ⟨(Nat.le_of_ble_eq_true rfl), (Nat.le_of_ble_eq_true rfl)⟩ ⟨show cells + 6 + 100 ≤ room_1.cells by omega, show slots + 204 + 2200 ≤ room_1.slots by omega⟩ (fun v9 w9 h9 => ?_) (fun _ h9 => h9.elim)
    obtain ⟨rfl, rfl⟩ := h9
    refine r_astore C dL_law_1571 (by decide) rfl ?_
    refine r_aload_n C dL_law_1573 rfl ?_
    refine d_V (st := []) hX.1.stb C hE (D_thrown hX) pk_X4_thrown qm_L_281 0 8 rfl rfl wm_0 rfl rfl (Nat.le_of_ble_eq_true rfl) dL_law_1574 ⟨(Nat.le_of_ble_eq_true rfl), (Nat.le_of_ble_eq_true rfl)⟩ ⟨show cells + 6 + 100 + 0 ≤ room_1.cells by omega, show slots + 204 + 2200 + 0 ≤ room_1.slots by omega⟩ ?_
    refine r_iload C dL_law_1577 rfl ?_
    refine r_ic_eq (tgt := 1584) C dL_law_1579 (by decide) (fun _ => ?_) (fun hne => absurd rfl hne)
    refine r_iload C dL_law_1584 rfl ?_
    refine r_ifN_ne (a := 1) (tgt := 1603) C (by omega) dL_law_1586 (by decide) (fun _ => ?_) (fun h => absurd h (by omega))
    refine t_swap3 ?_
    refine r_goto (tgt := 2129) C dL_law_1603 (by decide) ?_
    refine r_widen (k := cells + 500) (n := slots + 10000) (show cells + 6 + 100 + 0 ≤ cells + 500 by omega) (show slots + 204 + 2200 + 0 ≤ slots + 10000 by omega) ?_
    refine r_drop 5 ?_
    refine r_drop 6 ?_
    exact kk _ ⟨f, r, hf, hq, kn, ra, _, sm, _, _, hC, hB, hM, rfl⟩
  · skip
    have q := hC.rw hj4
    refine r_aload_n C dL_law_1548 rfl ?_
    refine r_aload_n C dL_law_1549 rfl ?_
    refine r_iload C dL_law_1550 rfl ?_
    refine r_iconst (v := nI 1) C dL_law_1552 (by decide) ?_
    refine r_iaddN C dL_law_1553 ?_
    refine r_sld C hx hbl hbA (show i + 1 < L by omega) (by omega) dL_law_1554 ?_
    refine r_aload_n C dL_law_1555 rfl ?_
    refine c_SH (st := []) hX.1.stb C hE (W_text_ok hT.1 hl hC hB hj4 hj) pk_L_text qm_L_278 rfl rfl (Nat.le_of_ble_eq_true rfl) dL_law_1556 ⟨(Nat.le_of_ble_eq_true rfl), (Nat.le_of_ble_eq_true rfl)⟩ ⟨show cells + 6 ≤ room_1.cells by omega, show slots + 204 ≤ room_1.slots by omega⟩ (fun v9 w9 h9 => ?_) (fun _ h9 => h9.elim)
    obtain ⟨a9, v9, g9, hT9, rfl, rfl⟩ := h9
    refine r_istore C dL_law_1559 (by decide) rfl ?_
    refine r_aload_n C dL_law_1561 rfl ?_
    refine r_aload_n C dL_law_1562 rfl ?_
    refine r_iload C dL_law_1563 rfl ?_
    refine r_iconst (v := nI 1) C dL_law_1565 (by decide) ?_
    refine r_iaddN C dL_law_1566 ?_
    refine r_sld C hx hbl hbA (show i + 1 < L by omega) (by omega) dL_law_1567 ?_
    refine t_swap3 ?_
    refine c_V (st := []) hX.1.stb C hE (D_text_okx hT.1 hC hB hM hj4 hj) pk_X4_text qm_L_280 0 8 rfl rfl wm_0 rfl rfl (Nat.le_of_ble_eq_true rfl) dL_law_1568 ⟨(Nat.le_of_ble_eq_true rfl), (Nat.le_of_ble_eq_true rfl)⟩ ⟨show cells + 6 + 100 ≤ room_1.cells by omega, show slots + 204 + 2200 ≤ room_1.slots by omega⟩ (fun v9 w9 h9 => ?_) (fun _ h9 => h9.elim)
    obtain ⟨a2, v2, z1, z2, g2, hT2, rfl, rfl⟩ := h9
    refine r_astore C dL_law_1571 (by decide) rfl ?_
    refine r_aload_n C dL_law_1573 rfl ?_
    refine d_V (st := []) hX.1.stb C hE (D_thrown hX) pk_X4_thrown qm_L_281 0 8 rfl rfl wm_0 rfl rfl (Nat.le_of_ble_eq_true rfl) dL_law_1574 ⟨(Nat.le_of_ble_eq_true rfl), (Nat.le_of_ble_eq_true rfl)⟩ ⟨show cells + 6 + 100 + 0 ≤ room_1.cells by omega, show slots + 204 + 2200 + 0 ≤ room_1.slots by omega⟩ ?_
    refine r_iload C dL_law_1577 rfl ?_
    refine r_ic_eq (tgt := 1584) C dL_law_1579 (by decide) (fun _ => ?_) (fun hne => absurd rfl hne)
    refine r_iload C dL_law_1584 rfl ?_
    refine r_ifN_ne (a := 0) (tgt := 1603) C (by omega) dL_law_1586 (by decide) (fun h => absurd rfl h) (fun _ => ?_)
    refine r_aload_n C dL_law_1589 rfl ?_
    refine g_getN hX.1 C hE qu_X3 (ci := 7) rfl 40 txo_40 1 (by decide) qn_L_127 rfl rfl dL_law_1590 ?_
    refine r_aload C dL_law_1593 rfl ?_
    have htl := tlx_le (fun k => r (f 0 j) (f 3 j + k)) (f 4 j)
    refine c_V (st := []) hX.1.stb C hE (C_seq hT.1 41 42 14 15 txo_41 txo_42 txo_14 txo_15 (fun q hq => (hT9.2.2 q hq).trans (hT2.2.2 q hq).symm) (by omega)) pk_J0_equals_9ea2d qm_L_285 41 0 rfl rfl txo_41 rfl rfl (Nat.le_of_ble_eq_true rfl) dL_law_1595 ⟨(Nat.le_of_ble_eq_true rfl), (Nat.le_of_ble_eq_true rfl)⟩ ⟨show cells + 6 + 100 + 0 + 0 ≤ room_1.cells by omega, show slots + 204 + 2200 + 0 + 0 ≤ room_1.slots by omega⟩ (fun v9 w9 h9 => ?_) (fun _ h9 => h9.elim)
    obtain ⟨rfl, rfl⟩ := h9
    refine r_ifN_ne (a := 1) (tgt := 1603) C (by omega) dL_law_1598 (by decide) (fun _ => ?_) (fun h => absurd h (by omega))
    refine txo_back ?_
    refine r_goto (tgt := 2129) C dL_law_1603 (by decide) ?_
    refine r_widen (k := cells + 500) (n := slots + 10000) (show cells + 6 + 100 + 0 + 0 ≤ cells + 500 by omega) (show slots + 204 + 2200 + 0 + 0 ≤ slots + 10000 by omega) ?_
    refine r_drop 5 ?_
    refine r_drop 6 ?_
    exact kk _ ⟨f, r, hf, hq, kn, ra, _, sm, _, _, hC, hB, hM, rfl⟩
theorem S_inArray {p : Program} {l : Launch} {e : Env} {s : State} {m : MethodId} {args : Array Value} {below : List Frame} {meth : Method} {c : Code} {D : va_G} {cy : Nat → ClassId} {A : Nat → Prop} {Q : State → Prop} {X : (Nat → Prop) → State → Heap → Prop} {aK aV : Nat → Nat} {tO tT : Nat} {gO gT : Nat → Int32} {a : Nat → Nat → Nat} {ba : Nat → Nat} {o b L i cells slots : Nat} {xs : Nat → Int32} {w : va_W} (C : Fg p s m args meth c cL_law 7 RL D cy A) (hE : X A s s.heap) (hT : EnvT X cy aK aV tO tT gO gT) (hN : EnvN X) (hl : l.stackTraces = false) (hx : va_X b L xs s s.heap) (hbl : b < s.heap.size) (hbA : ¬ A b) (hi : i + 5 ≤ L) (hL : L ≤ 2560) (hc : cells + 500 ≤ room_1.cells) (hs : slots + 10000 ≤ room_1.slots) (hJ : JW cy a ba o w) (kk : ∀ w' : va_W, JW cy a ba o w' → vW p l e room_1 s m args below meth c D vwCl A Q 7 (cells + 500) (slots + 10000) w' [some (.ref b), some (.ref (a 0 0)), some (.ref (ba 9)), some (.ref o), some (.int (nI i)), none, none] 2129 []) : vW p l e room_1 s m args below meth c D vwCl A Q 7 cells slots w [some (.ref b), some (.ref (a 0 0)), some (.ref (ba 9)), some (.ref o), some (.int (nI i)), none, none] 1606 [] := by
  have hX := hT.1.1
  obtain ⟨f, r, hf, hq, kn, ra, th, sm, n, v, hC, hB, hM, rfl⟩ := hJ
  refine r_aload_n C dL_law_1606 rfl ?_
  refine r_aload_n C dL_law_1607 rfl ?_
  refine r_iload C dL_law_1608 rfl ?_
  refine r_iconst (v := nI 1) C dL_law_1610 (by decide) ?_
  refine r_iaddN C dL_law_1611 ?_
  refine r_sld C hx hbl hbA (show i + 1 < L by omega) (by omega) dL_law_1612 ?_
  refine r_aload_n C dL_law_1613 rfl ?_
  refine r_iload C dL_law_1614 rfl ?_
  refine r_iconst (v := nI 2) C dL_law_1616 (by decide) ?_
  refine r_iaddN C dL_law_1617 ?_
  refine r_sld C hx hbl hbA (show i + 2 < L by omega) (by omega) dL_law_1618 ?_
  refine r_aload_n C dL_law_1619 rfl ?_
  refine c_SH (st := []) hX.1.stb C hE (W_inArray hX.1 hN hC hB hM (P_inArray hX hl hC hB hM (xs (i + 1)) (xs (i + 2)))) pk_L_inArray qm_L_291 rfl rfl (Nat.le_of_ble_eq_true rfl) dL_law_1620 ⟨(Nat.le_of_ble_eq_true rfl), (Nat.le_of_ble_eq_true rfl)⟩ ⟨show cells + 1 ≤ room_1.cells by omega, show slots + 6 ≤ room_1.slots by omega⟩ (fun v9 w9 h9 => ?_) (fun _ h9 => h9.elim)
  obtain ⟨f', r', k, n1, rfl, rfl, hf', hq', n2, hC', hB', hM', hk0, hk4, h2⟩ := h9
  refine r_istore C dL_law_1623 (by decide) rfl ?_
  refine r_aload_n C dL_law_1625 rfl ?_
  refine r_aload_n C dL_law_1626 rfl ?_
  refine r_iload C dL_law_1627 rfl ?_
  refine r_iconst (v := nI 1) C dL_law_1629 (by decide) ?_
  refine r_iaddN C dL_law_1630 ?_
  refine r_sld C hx hbl hbA (show i + 1 < L by omega) (by omega) dL_law_1631 ?_
  refine r_aload_n C dL_law_1632 rfl ?_
  refine r_iload C dL_law_1633 rfl ?_
  refine r_iconst (v := nI 2) C dL_law_1635 (by decide) ?_
  refine r_iaddN C dL_law_1636 ?_
  refine r_sld C hx hbl hbA (show i + 2 < L by omega) (by omega) dL_law_1637 ?_
  refine t_swap3 ?_
  refine c_V (st := []) hX.1.stb C hE (h2 _) pk_X4_inArray qm_L_293 0 8 rfl rfl wm_0 rfl rfl (Nat.le_of_ble_eq_true rfl) dL_law_1638 ⟨(Nat.le_of_ble_eq_true rfl), (Nat.le_of_ble_eq_true rfl)⟩ ⟨show cells + 1 + 4 ≤ room_1.cells by omega, show slots + 6 + 48 ≤ room_1.slots by omega⟩ (fun v9 w9 h9 => ?_) (fun _ h9 => h9.elim)
  obtain ⟨ra9, rfl, rfl⟩ := h9
  refine r_istore C dL_law_1641 (by decide) rfl ?_
  refine t_swap3 ?_
  refine r_goto (tgt := 2129) C dL_law_1643 (by decide) ?_
  refine r_widen (k := cells + 500) (n := slots + 10000) (show cells + 1 + 4 ≤ cells + 500 by omega) (show slots + 6 + 48 ≤ slots + 10000 by omega) ?_
  refine r_drop 5 ?_
  refine r_drop 6 ?_
  exact kk _ ⟨f', r', hf', hq', kn, ra9, _, sm, _, _, hC', hB', hM', rfl⟩
theorem S_window {p : Program} {l : Launch} {e : Env} {s : State} {m : MethodId} {args : Array Value} {below : List Frame} {meth : Method} {c : Code} {D : va_G} {cy : Nat → ClassId} {A : Nat → Prop} {Q : State → Prop} {X : (Nat → Prop) → State → Heap → Prop} {aK aV : Nat → Nat} {tO tT : Nat} {gO gT : Nat → Int32} {a : Nat → Nat → Nat} {ba : Nat → Nat} {o b L i cells slots : Nat} {xs : Nat → Int32} {w : va_W} (C : Fg p s m args meth c cL_law 7 RL D cy A) (hE : X A s s.heap) (hT : EnvT X cy aK aV tO tT gO gT) (hN : EnvN X) (hl : l.stackTraces = false) (hx : va_X b L xs s s.heap) (hbl : b < s.heap.size) (hbA : ¬ A b) (hi : i + 5 ≤ L) (hL : L ≤ 2560) (hc : cells + 500 ≤ room_1.cells) (hs : slots + 10000 ≤ room_1.slots) (hJ : JW cy a ba o w) (kk : ∀ w' : va_W, JW cy a ba o w' → vW p l e room_1 s m args below meth c D vwCl A Q 7 (cells + 500) (slots + 10000) w' [some (.ref b), some (.ref (a 0 0)), some (.ref (ba 9)), some (.ref o), some (.int (nI i)), none, none] 2129 []) : vW p l e room_1 s m args below meth c D vwCl A Q 7 cells slots w [some (.ref b), some (.ref (a 0 0)), some (.ref (ba 9)), some (.ref o), some (.int (nI i)), none, none] 1646 [] := by
  have hX := hT.1.1
  obtain ⟨f, r, hf, hq, kn, ra, th, sm, n, v, hC, hB, hM, rfl⟩ := hJ
  refine r_aload_n C dL_law_1646 rfl ?_
  refine r_aload_n C dL_law_1647 rfl ?_
  refine r_iload C dL_law_1648 rfl ?_
  refine r_iconst (v := nI 1) C dL_law_1650 (by decide) ?_
  refine r_iaddN C dL_law_1651 ?_
  refine r_sld C hx hbl hbA (show i + 1 < L by omega) (by omega) dL_law_1652 ?_
  refine r_aload_n C dL_law_1653 rfl ?_
  refine r_iload C dL_law_1654 rfl ?_
  refine r_iconst (v := nI 2) C dL_law_1656 (by decide) ?_
  refine r_iaddN C dL_law_1657 ?_
  refine r_sld C hx hbl hbA (show i + 2 < L by omega) (by omega) dL_law_1658 ?_
  refine r_aload_n C dL_law_1659 rfl ?_
  refine r_iload C dL_law_1660 rfl ?_
  refine r_iconst (v := nI 3) C dL_law_1662 (by decide) ?_
  refine r_iaddN C dL_law_1663 ?_
  refine r_sld C hx hbl hbA (show i + 3 < L by omega) (by omega) dL_law_1664 ?_
  refine r_aload_n C dL_law_1665 rfl ?_
  refine r_iload C dL_law_1666 rfl ?_
  refine r_iconst (v := nI 4) C dL_law_1668 (by decide) ?_
  refine r_iaddN C dL_law_1669 ?_
  refine r_sld C hx hbl hbA (show i + 4 < L by omega) (by omega) dL_law_1670 ?_
  refine r_aload_n C dL_law_1671 rfl ?_
  refine c_SH (st := []) hX.1.stb C hE (W_window hX.1 hN hC hB hM (P_window hX hl hC hB hM (xs (i + 1)) (xs (i + 2)) (xs (i + 3)) (xs (i + 4)))) pk_L_window qm_L_294 rfl rfl (Nat.le_of_ble_eq_true rfl) dL_law_1672 ⟨(Nat.le_of_ble_eq_true rfl), (Nat.le_of_ble_eq_true rfl)⟩ ⟨show cells + 1 ≤ room_1.cells by omega, show slots + 6 ≤ room_1.slots by omega⟩ (fun v9 w9 h9 => ?_) (fun _ h9 => h9.elim)
  obtain ⟨f', r', k, n1, rfl, rfl, hf', hq', n2, hC', hB', hM', hk0, hk4, h2⟩ := h9
  refine r_istore C dL_law_1675 (by decide) rfl ?_
  refine r_aload_n C dL_law_1677 rfl ?_
  refine r_aload_n C dL_law_1678 rfl ?_
  refine r_iload C dL_law_1679 rfl ?_
  refine r_iconst (v := nI 1) C dL_law_1681 (by decide) ?_
  refine r_iaddN C dL_law_1682 ?_
  refine r_sld C hx hbl hbA (show i + 1 < L by omega) (by omega) dL_law_1683 ?_
  refine r_aload_n C dL_law_1684 rfl ?_
  refine r_iload C dL_law_1685 rfl ?_
  refine r_iconst (v := nI 2) C dL_law_1687 (by decide) ?_
  refine r_iaddN C dL_law_1688 ?_
  refine r_sld C hx hbl hbA (show i + 2 < L by omega) (by omega) dL_law_1689 ?_
  refine r_aload_n C dL_law_1690 rfl ?_
  refine r_iload C dL_law_1691 rfl ?_
  refine r_iconst (v := nI 3) C dL_law_1693 (by decide) ?_
  refine r_iaddN C dL_law_1694 ?_
  refine r_sld C hx hbl hbA (show i + 3 < L by omega) (by omega) dL_law_1695 ?_
  refine r_aload_n C dL_law_1696 rfl ?_
  refine r_iload C dL_law_1697 rfl ?_
  refine r_iconst (v := nI 4) C dL_law_1699 (by decide) ?_
  refine r_iaddN C dL_law_1700 ?_
  refine r_sld C hx hbl hbA (show i + 4 < L by omega) (by omega) dL_law_1701 ?_
  refine t_swap3 ?_
  refine c_V (st := []) hX.1.stb C hE (h2 _) pk_X4_window qm_L_296 0 8 rfl rfl wm_0 rfl rfl (Nat.le_of_ble_eq_true rfl) dL_law_1702 ⟨(Nat.le_of_ble_eq_true rfl), (Nat.le_of_ble_eq_true rfl)⟩ ⟨show cells + 1 + 4 ≤ room_1.cells by omega, show slots + 6 + 48 ≤ room_1.slots by omega⟩ (fun v9 w9 h9 => ?_) (fun _ h9 => h9.elim)
  obtain ⟨ra9, rfl, rfl⟩ := h9
  refine r_istore C dL_law_1705 (by decide) rfl ?_
  refine t_swap3 ?_
  refine r_goto (tgt := 2129) C dL_law_1707 (by decide) ?_
  refine r_widen (k := cells + 500) (n := slots + 10000) (show cells + 1 + 4 ≤ cells + 500 by omega) (show slots + 6 + 48 ≤ slots + 10000 by omega) ?_
  refine r_drop 5 ?_
  refine r_drop 6 ?_
  exact kk _ ⟨f', r', hf', hq', kn, ra9, _, sm, _, _, hC', hB', hM', rfl⟩
theorem S_close {p : Program} {l : Launch} {e : Env} {s : State} {m : MethodId} {args : Array Value} {below : List Frame} {meth : Method} {c : Code} {D : va_G} {cy : Nat → ClassId} {A : Nat → Prop} {Q : State → Prop} {X : (Nat → Prop) → State → Heap → Prop} {aK aV : Nat → Nat} {tO tT : Nat} {gO gT : Nat → Int32} {a : Nat → Nat → Nat} {ba : Nat → Nat} {o b L i cells slots : Nat} {xs : Nat → Int32} {w : va_W} (C : Fg p s m args meth c cL_law 7 RL D cy A) (hE : X A s s.heap) (hT : EnvT X cy aK aV tO tT gO gT) (hN : EnvN X) (hl : l.stackTraces = false) (hx : va_X b L xs s s.heap) (hbl : b < s.heap.size) (hbA : ¬ A b) (hi : i + 5 ≤ L) (hL : L ≤ 2560) (hc : cells + 500 ≤ room_1.cells) (hs : slots + 10000 ≤ room_1.slots) (hJ : JW cy a ba o w) (kk : ∀ w' : va_W, JW cy a ba o w' → vW p l e room_1 s m args below meth c D vwCl A Q 7 (cells + 500) (slots + 10000) w' [some (.ref b), some (.ref (a 0 0)), some (.ref (ba 9)), some (.ref o), some (.int (nI i)), none, none] 2129 []) : vW p l e room_1 s m args below meth c D vwCl A Q 7 cells slots w [some (.ref b), some (.ref (a 0 0)), some (.ref (ba 9)), some (.ref o), some (.int (nI i)), none, none] 1710 [] := by
  have hX := hT.1.1
  obtain ⟨f, r, hf, hq, kn, ra, th, sm, n, v, hC, hB, hM, rfl⟩ := hJ
  refine r_aload_n C dL_law_1710 rfl ?_
  refine r_aload_n C dL_law_1711 rfl ?_
  refine r_iload C dL_law_1712 rfl ?_
  refine r_iconst (v := nI 1) C dL_law_1714 (by decide) ?_
  refine r_iaddN C dL_law_1715 ?_
  refine r_sld C hx hbl hbA (show i + 1 < L by omega) (by omega) dL_law_1716 ?_
  refine r_aload_n C dL_law_1717 rfl ?_
  refine c_SH (st := []) hX.1.stb C hE (W_close hX.1 hN hC hB hM (P_close hX hl hC hB hM (xs (i + 1)))) pk_L_close qm_L_297 rfl rfl (Nat.le_of_ble_eq_true rfl) dL_law_1718 ⟨(Nat.le_of_ble_eq_true rfl), (Nat.le_of_ble_eq_true rfl)⟩ ⟨show cells + 1 ≤ room_1.cells by omega, show slots + 6 ≤ room_1.slots by omega⟩ (fun v9 w9 h9 => ?_) (fun _ h9 => h9.elim)
  obtain ⟨f', r', k, n1, rfl, rfl, hf', hq', n2, hC', hB', hM', hk0, hk4, h2⟩ := h9
  refine r_istore C dL_law_1721 (by decide) rfl ?_
  refine r_aload_n C dL_law_1723 rfl ?_
  refine r_aload_n C dL_law_1724 rfl ?_
  refine r_iload C dL_law_1725 rfl ?_
  refine r_iconst (v := nI 1) C dL_law_1727 (by decide) ?_
  refine r_iaddN C dL_law_1728 ?_
  refine r_sld C hx hbl hbA (show i + 1 < L by omega) (by omega) dL_law_1729 ?_
  refine t_swap3 ?_
  refine c_V (st := []) hX.1.stb C hE (h2 _) pk_X4_close qm_L_299 0 8 rfl rfl wm_0 rfl rfl (Nat.le_of_ble_eq_true rfl) dL_law_1730 ⟨(Nat.le_of_ble_eq_true rfl), (Nat.le_of_ble_eq_true rfl)⟩ ⟨show cells + 1 + 4 ≤ room_1.cells by omega, show slots + 6 + 48 ≤ room_1.slots by omega⟩ (fun v9 w9 h9 => ?_) (fun _ h9 => h9.elim)
  obtain ⟨ra9, rfl, rfl⟩ := h9
  refine r_istore C dL_law_1733 (by decide) rfl ?_
  refine t_swap3 ?_
  refine r_goto (tgt := 2129) C dL_law_1735 (by decide) ?_
  refine r_widen (k := cells + 500) (n := slots + 10000) (show cells + 1 + 4 ≤ cells + 500 by omega) (show slots + 6 + 48 ≤ slots + 10000 by omega) ?_
  refine r_drop 5 ?_
  refine r_drop 6 ?_
  exact kk _ ⟨f', r', hf', hq', kn, ra9, _, sm, _, _, hC', hB', hM', rfl⟩

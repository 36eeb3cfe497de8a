/-! THE LAW'S CASES, 3 -/
theorem dL_law_1253 : decode cL_law 1253 = .ok (.aload_n 1, 1) := dqo_43 (kb_19 37 rfl)
theorem dL_law_1254 : decode cL_law 1254 = .ok (.aload_n 0, 1) := dqo_42 (kb_19 38 rfl)
theorem dL_law_1255 : decode cL_law 1255 = .ok (.iload 4, 2) := dqo_21 4 (kb_19 39 rfl) (kb_19 40 rfl)
theorem dL_law_1257 : decode cL_law 1257 = .ok (.iconst 1, 1) := dqo_4 (kb_19 41 rfl)
theorem dL_law_1258 : decode cL_law 1258 = .ok (.iadd, 1) := dqo_96 (kb_19 42 rfl)
theorem dL_law_1259 : decode cL_law 1259 = .ok (.iaload, 1) := dqo_46 (kb_19 43 rfl)
theorem dL_law_1260 : decode cL_law 1260 = .ok (.aload_n 0, 1) := dqo_42 (kb_19 44 rfl)
theorem dL_law_1261 : decode cL_law 1261 = .ok (.iload 4, 2) := dqo_21 4 (kb_19 45 rfl) (kb_19 46 rfl)
theorem dL_law_1263 : decode cL_law 1263 = .ok (.iconst 2, 1) := dqo_5 (kb_19 47 rfl)
theorem dL_law_1264 : decode cL_law 1264 = .ok (.iadd, 1) := dqo_96 (kb_19 48 rfl)
theorem dL_law_1265 : decode cL_law 1265 = .ok (.iaload, 1) := dqo_46 (kb_19 49 rfl)
theorem dL_law_1266 : decode cL_law 1266 = .ok (.aload_n 3, 1) := dqo_45 (kb_19 50 rfl)
theorem dL_law_1267 : decode cL_law 1267 = .ok (.invokestatic 257, 3) := dqo_184 1 1 (kb_19 51 rfl) (kb_19 52 rfl) (kb_19 53 rfl)
theorem dL_law_1270 : decode cL_law 1270 = .ok (.istore 5, 2) := dqo_54 5 (kb_19 54 rfl) (kb_19 55 rfl)
theorem dL_law_1272 : decode cL_law 1272 = .ok (.aload_n 2, 1) := dqo_44 (kb_19 56 rfl)
theorem dL_law_1273 : decode cL_law 1273 = .ok (.aload_n 0, 1) := dqo_42 (kb_19 57 rfl)
theorem dL_law_1274 : decode cL_law 1274 = .ok (.iload 4, 2) := dqo_21 4 (kb_19 58 rfl) (kb_19 59 rfl)
theorem dL_law_1276 : decode cL_law 1276 = .ok (.iconst 1, 1) := dqo_4 (kb_19 60 rfl)
theorem dL_law_1277 : decode cL_law 1277 = .ok (.iadd, 1) := dqo_96 (kb_19 61 rfl)
theorem dL_law_1278 : decode cL_law 1278 = .ok (.iaload, 1) := dqo_46 (kb_19 62 rfl)
theorem dL_law_1279 : decode cL_law 1279 = .ok (.aload_n 0, 1) := dqo_42 (kb_19 63 rfl)
theorem dL_law_1280 : decode cL_law 1280 = .ok (.iload 4, 2) := dqo_21 4 (kb_20 0 rfl) (kb_20 1 rfl)
theorem dL_law_1282 : decode cL_law 1282 = .ok (.iconst 2, 1) := dqo_5 (kb_20 2 rfl)
theorem dL_law_1283 : decode cL_law 1283 = .ok (.iadd, 1) := dqo_96 (kb_20 3 rfl)
theorem dL_law_1284 : decode cL_law 1284 = .ok (.iaload, 1) := dqo_46 (kb_20 4 rfl)
theorem dL_law_1285 : decode cL_law 1285 = .ok (.invokevirtual 259, 3) := dqo_182 1 3 (kb_20 5 rfl) (kb_20 6 rfl) (kb_20 7 rfl)
theorem dL_law_1288 : decode cL_law 1288 = .ok (.istore 6, 2) := dqo_54 6 (kb_20 8 rfl) (kb_20 9 rfl)
theorem dL_law_1290 : decode cL_law 1290 = .ok (.goto 838, 3) := dqo_167 3 70 (by decide) (kb_20 10 rfl) (kb_20 11 rfl) (kb_20 12 rfl)
theorem dL_law_1293 : decode cL_law 1293 = .ok (.aload_n 1, 1) := dqo_43 (kb_20 13 rfl)
theorem dL_law_1294 : decode cL_law 1294 = .ok (.aload_n 0, 1) := dqo_42 (kb_20 14 rfl)
theorem dL_law_1295 : decode cL_law 1295 = .ok (.iload 4, 2) := dqo_21 4 (kb_20 15 rfl) (kb_20 16 rfl)
theorem dL_law_1297 : decode cL_law 1297 = .ok (.iconst 1, 1) := dqo_4 (kb_20 17 rfl)
theorem dL_law_1298 : decode cL_law 1298 = .ok (.iadd, 1) := dqo_96 (kb_20 18 rfl)
theorem dL_law_1299 : decode cL_law 1299 = .ok (.iaload, 1) := dqo_46 (kb_20 19 rfl)
theorem dL_law_1300 : decode cL_law 1300 = .ok (.aload_n 0, 1) := dqo_42 (kb_20 20 rfl)
theorem dL_law_1301 : decode cL_law 1301 = .ok (.iload 4, 2) := dqo_21 4 (kb_20 21 rfl) (kb_20 22 rfl)
theorem dL_law_1303 : decode cL_law 1303 = .ok (.iconst 2, 1) := dqo_5 (kb_20 23 rfl)
theorem dL_law_1304 : decode cL_law 1304 = .ok (.iadd, 1) := dqo_96 (kb_20 24 rfl)
theorem dL_law_1305 : decode cL_law 1305 = .ok (.iaload, 1) := dqo_46 (kb_20 25 rfl)
theorem dL_law_1306 : decode cL_law 1306 = .ok (.aload_n 3, 1) := dqo_45 (kb_20 26 rfl)
theorem dL_law_1307 : decode cL_law 1307 = .ok (.invokestatic 260, 3) := dqo_184 1 4 (kb_20 27 rfl) (kb_20 28 rfl) (kb_20 29 rfl)
theorem dL_law_1310 : decode cL_law 1310 = .ok (.istore 5, 2) := dqo_54 5 (kb_20 30 rfl) (kb_20 31 rfl)
theorem dL_law_1312 : decode cL_law 1312 = .ok (.aload_n 2, 1) := dqo_44 (kb_20 32 rfl)
theorem dL_law_1313 : decode cL_law 1313 = .ok (.aload_n 0, 1) := dqo_42 (kb_20 33 rfl)
theorem dL_law_1314 : decode cL_law 1314 = .ok (.iload 4, 2) := dqo_21 4 (kb_20 34 rfl) (kb_20 35 rfl)
theorem dL_law_1316 : decode cL_law 1316 = .ok (.iconst 1, 1) := dqo_4 (kb_20 36 rfl)
theorem dL_law_1317 : decode cL_law 1317 = .ok (.iadd, 1) := dqo_96 (kb_20 37 rfl)
theorem dL_law_1318 : decode cL_law 1318 = .ok (.iaload, 1) := dqo_46 (kb_20 38 rfl)
theorem dL_law_1319 : decode cL_law 1319 = .ok (.aload_n 0, 1) := dqo_42 (kb_20 39 rfl)
theorem dL_law_1320 : decode cL_law 1320 = .ok (.iload 4, 2) := dqo_21 4 (kb_20 40 rfl) (kb_20 41 rfl)
theorem dL_law_1322 : decode cL_law 1322 = .ok (.iconst 2, 1) := dqo_5 (kb_20 42 rfl)
theorem dL_law_1323 : decode cL_law 1323 = .ok (.iadd, 1) := dqo_96 (kb_20 43 rfl)
theorem dL_law_1324 : decode cL_law 1324 = .ok (.iaload, 1) := dqo_46 (kb_20 44 rfl)
theorem dL_law_1325 : decode cL_law 1325 = .ok (.invokevirtual 262, 3) := dqo_182 1 6 (kb_20 45 rfl) (kb_20 46 rfl) (kb_20 47 rfl)
theorem dL_law_1328 : decode cL_law 1328 = .ok (.istore 6, 2) := dqo_54 6 (kb_20 48 rfl) (kb_20 49 rfl)
theorem dL_law_1330 : decode cL_law 1330 = .ok (.goto 798, 3) := dqo_167 3 30 (by decide) (kb_20 50 rfl) (kb_20 51 rfl) (kb_20 52 rfl)
theorem dL_law_1333 : decode cL_law 1333 = .ok (.aload_n 1, 1) := dqo_43 (kb_20 53 rfl)
theorem dL_law_1334 : decode cL_law 1334 = .ok (.aload_n 0, 1) := dqo_42 (kb_20 54 rfl)
theorem dL_law_1335 : decode cL_law 1335 = .ok (.iload 4, 2) := dqo_21 4 (kb_20 55 rfl) (kb_20 56 rfl)
theorem dL_law_1337 : decode cL_law 1337 = .ok (.iconst 1, 1) := dqo_4 (kb_20 57 rfl)
theorem dL_law_1338 : decode cL_law 1338 = .ok (.iadd, 1) := dqo_96 (kb_20 58 rfl)
theorem dL_law_1339 : decode cL_law 1339 = .ok (.iaload, 1) := dqo_46 (kb_20 59 rfl)
theorem dL_law_1340 : decode cL_law 1340 = .ok (.aload_n 0, 1) := dqo_42 (kb_20 60 rfl)
theorem dL_law_1341 : decode cL_law 1341 = .ok (.iload 4, 2) := dqo_21 4 (kb_20 61 rfl) (kb_20 62 rfl)
theorem dL_law_1343 : decode cL_law 1343 = .ok (.iconst 2, 1) := dqo_5 (kb_20 63 rfl)
theorem dL_law_1344 : decode cL_law 1344 = .ok (.iadd, 1) := dqo_96 (kb_21 0 rfl)
theorem dL_law_1345 : decode cL_law 1345 = .ok (.iaload, 1) := dqo_46 (kb_21 1 rfl)
theorem dL_law_1346 : decode cL_law 1346 = .ok (.aload_n 3, 1) := dqo_45 (kb_21 2 rfl)
theorem dL_law_1347 : decode cL_law 1347 = .ok (.invokestatic 263, 3) := dqo_184 1 7 (kb_21 3 rfl) (kb_21 4 rfl) (kb_21 5 rfl)
theorem dL_law_1350 : decode cL_law 1350 = .ok (.istore 5, 2) := dqo_54 5 (kb_21 6 rfl) (kb_21 7 rfl)
theorem dL_law_1352 : decode cL_law 1352 = .ok (.aload_n 2, 1) := dqo_44 (kb_21 8 rfl)
theorem dL_law_1353 : decode cL_law 1353 = .ok (.aload_n 0, 1) := dqo_42 (kb_21 9 rfl)
theorem dL_law_1354 : decode cL_law 1354 = .ok (.iload 4, 2) := dqo_21 4 (kb_21 10 rfl) (kb_21 11 rfl)
theorem dL_law_1356 : decode cL_law 1356 = .ok (.iconst 1, 1) := dqo_4 (kb_21 12 rfl)
theorem dL_law_1357 : decode cL_law 1357 = .ok (.iadd, 1) := dqo_96 (kb_21 13 rfl)
theorem dL_law_1358 : decode cL_law 1358 = .ok (.iaload, 1) := dqo_46 (kb_21 14 rfl)
theorem dL_law_1359 : decode cL_law 1359 = .ok (.aload_n 0, 1) := dqo_42 (kb_21 15 rfl)
theorem dL_law_1360 : decode cL_law 1360 = .ok (.iload 4, 2) := dqo_21 4 (kb_21 16 rfl) (kb_21 17 rfl)
theorem dL_law_1362 : decode cL_law 1362 = .ok (.iconst 2, 1) := dqo_5 (kb_21 18 rfl)
theorem dL_law_1363 : decode cL_law 1363 = .ok (.iadd, 1) := dqo_96 (kb_21 19 rfl)
theorem dL_law_1364 : decode cL_law 1364 = .ok (.iaload, 1) := dqo_46 (kb_21 20 rfl)
theorem dL_law_1365 : decode cL_law 1365 = .ok (.invokevirtual 265, 3) := dqo_182 1 9 (kb_21 21 rfl) (kb_21 22 rfl) (kb_21 23 rfl)
theorem dL_law_1368 : decode cL_law 1368 = .ok (.istore 6, 2) := dqo_54 6 (kb_21 24 rfl) (kb_21 25 rfl)
theorem dL_law_1370 : decode cL_law 1370 = .ok (.goto 758, 3) := dqo_167 2 246 (by decide) (kb_21 26 rfl) (kb_21 27 rfl) (kb_21 28 rfl)
theorem dL_law_1373 : decode cL_law 1373 = .ok (.aload_n 1, 1) := dqo_43 (kb_21 29 rfl)
theorem dL_law_1374 : decode cL_law 1374 = .ok (.aload_n 0, 1) := dqo_42 (kb_21 30 rfl)
theorem dL_law_1375 : decode cL_law 1375 = .ok (.iload 4, 2) := dqo_21 4 (kb_21 31 rfl) (kb_21 32 rfl)
theorem dL_law_1377 : decode cL_law 1377 = .ok (.iconst 1, 1) := dqo_4 (kb_21 33 rfl)
theorem dL_law_1378 : decode cL_law 1378 = .ok (.iadd, 1) := dqo_96 (kb_21 34 rfl)
theorem dL_law_1379 : decode cL_law 1379 = .ok (.iaload, 1) := dqo_46 (kb_21 35 rfl)
theorem dL_law_1380 : decode cL_law 1380 = .ok (.aload_n 0, 1) := dqo_42 (kb_21 36 rfl)
theorem dL_law_1381 : decode cL_law 1381 = .ok (.iload 4, 2) := dqo_21 4 (kb_21 37 rfl) (kb_21 38 rfl)
theorem dL_law_1383 : decode cL_law 1383 = .ok (.iconst 2, 1) := dqo_5 (kb_21 39 rfl)
theorem dL_law_1384 : decode cL_law 1384 = .ok (.iadd, 1) := dqo_96 (kb_21 40 rfl)
theorem dL_law_1385 : decode cL_law 1385 = .ok (.iaload, 1) := dqo_46 (kb_21 41 rfl)
theorem dL_law_1386 : decode cL_law 1386 = .ok (.aload_n 3, 1) := dqo_45 (kb_21 42 rfl)
theorem dL_law_1387 : decode cL_law 1387 = .ok (.invokestatic 266, 3) := dqo_184 1 10 (kb_21 43 rfl) (kb_21 44 rfl) (kb_21 45 rfl)
theorem dL_law_1390 : decode cL_law 1390 = .ok (.istore 5, 2) := dqo_54 5 (kb_21 46 rfl) (kb_21 47 rfl)
theorem dL_law_1392 : decode cL_law 1392 = .ok (.aload_n 2, 1) := dqo_44 (kb_21 48 rfl)
theorem dL_law_1393 : decode cL_law 1393 = .ok (.aload_n 0, 1) := dqo_42 (kb_21 49 rfl)
theorem dL_law_1394 : decode cL_law 1394 = .ok (.iload 4, 2) := dqo_21 4 (kb_21 50 rfl) (kb_21 51 rfl)
theorem dL_law_1396 : decode cL_law 1396 = .ok (.iconst 1, 1) := dqo_4 (kb_21 52 rfl)
theorem dL_law_1397 : decode cL_law 1397 = .ok (.iadd, 1) := dqo_96 (kb_21 53 rfl)
theorem dL_law_1398 : decode cL_law 1398 = .ok (.iaload, 1) := dqo_46 (kb_21 54 rfl)
theorem dL_law_1399 : decode cL_law 1399 = .ok (.aload_n 0, 1) := dqo_42 (kb_21 55 rfl)
theorem dL_law_1400 : decode cL_law 1400 = .ok (.iload 4, 2) := dqo_21 4 (kb_21 56 rfl) (kb_21 57 rfl)
theorem dL_law_1402 : decode cL_law 1402 = .ok (.iconst 2, 1) := dqo_5 (kb_21 58 rfl)
theorem dL_law_1403 : decode cL_law 1403 = .ok (.iadd, 1) := dqo_96 (kb_21 59 rfl)
theorem dL_law_1404 : decode cL_law 1404 = .ok (.iaload, 1) := dqo_46 (kb_21 60 rfl)
theorem dL_law_1405 : decode cL_law 1405 = .ok (.invokevirtual 268, 3) := dqo_182 1 12 (kb_21 61 rfl) (kb_21 62 rfl) (kb_21 63 rfl)
theorem dL_law_1408 : decode cL_law 1408 = .ok (.istore 6, 2) := dqo_54 6 (kb_22 0 rfl) (kb_22 1 rfl)
theorem dL_law_1410 : decode cL_law 1410 = .ok (.goto 718, 3) := dqo_167 2 206 (by decide) (kb_22 2 rfl) (kb_22 3 rfl) (kb_22 4 rfl)
theorem dL_law_1413 : decode cL_law 1413 = .ok (.aload_n 1, 1) := dqo_43 (kb_22 5 rfl)
theorem dL_law_1414 : decode cL_law 1414 = .ok (.aload_n 0, 1) := dqo_42 (kb_22 6 rfl)
theorem dL_law_1415 : decode cL_law 1415 = .ok (.iload 4, 2) := dqo_21 4 (kb_22 7 rfl) (kb_22 8 rfl)
theorem dL_law_1417 : decode cL_law 1417 = .ok (.iconst 1, 1) := dqo_4 (kb_22 9 rfl)
theorem dL_law_1418 : decode cL_law 1418 = .ok (.iadd, 1) := dqo_96 (kb_22 10 rfl)
theorem dL_law_1419 : decode cL_law 1419 = .ok (.iaload, 1) := dqo_46 (kb_22 11 rfl)
theorem dL_law_1420 : decode cL_law 1420 = .ok (.aload_n 0, 1) := dqo_42 (kb_22 12 rfl)
theorem dL_law_1421 : decode cL_law 1421 = .ok (.iload 4, 2) := dqo_21 4 (kb_22 13 rfl) (kb_22 14 rfl)
theorem dL_law_1423 : decode cL_law 1423 = .ok (.iconst 2, 1) := dqo_5 (kb_22 15 rfl)
theorem dL_law_1424 : decode cL_law 1424 = .ok (.iadd, 1) := dqo_96 (kb_22 16 rfl)
theorem dL_law_1425 : decode cL_law 1425 = .ok (.iaload, 1) := dqo_46 (kb_22 17 rfl)
theorem dL_law_1426 : decode cL_law 1426 = .ok (.ifCond .eq 7, 3) := dqo_153 0 7 (by decide) (kb_22 18 rfl) (kb_22 19 rfl) (kb_22 20 rfl)
theorem dL_law_1429 : decode cL_law 1429 = .ok (.iconst 1, 1) := dqo_4 (kb_22 21 rfl)
theorem dL_law_1430 : decode cL_law 1430 = .ok (.goto 4, 3) := dqo_167 0 4 (by decide) (kb_22 22 rfl) (kb_22 23 rfl) (kb_22 24 rfl)
theorem dL_law_1433 : decode cL_law 1433 = .ok (.iconst 0, 1) := dqo_3 (kb_22 25 rfl)
theorem dL_law_1434 : decode cL_law 1434 = .ok (.aload_n 3, 1) := dqo_45 (kb_22 26 rfl)
theorem dL_law_1435 : decode cL_law 1435 = .ok (.invokestatic 269, 3) := dqo_184 1 13 (kb_22 27 rfl) (kb_22 28 rfl) (kb_22 29 rfl)
theorem dL_law_1438 : decode cL_law 1438 = .ok (.istore 5, 2) := dqo_54 5 (kb_22 30 rfl) (kb_22 31 rfl)
theorem dL_law_1440 : decode cL_law 1440 = .ok (.aload_n 2, 1) := dqo_44 (kb_22 32 rfl)
theorem dL_law_1441 : decode cL_law 1441 = .ok (.aload_n 0, 1) := dqo_42 (kb_22 33 rfl)
theorem dL_law_1442 : decode cL_law 1442 = .ok (.iload 4, 2) := dqo_21 4 (kb_22 34 rfl) (kb_22 35 rfl)
theorem dL_law_1444 : decode cL_law 1444 = .ok (.iconst 1, 1) := dqo_4 (kb_22 36 rfl)
theorem dL_law_1445 : decode cL_law 1445 = .ok (.iadd, 1) := dqo_96 (kb_22 37 rfl)
theorem dL_law_1446 : decode cL_law 1446 = .ok (.iaload, 1) := dqo_46 (kb_22 38 rfl)
theorem dL_law_1447 : decode cL_law 1447 = .ok (.aload_n 0, 1) := dqo_42 (kb_22 39 rfl)
theorem dL_law_1448 : decode cL_law 1448 = .ok (.iload 4, 2) := dqo_21 4 (kb_22 40 rfl) (kb_22 41 rfl)
theorem dL_law_1450 : decode cL_law 1450 = .ok (.iconst 2, 1) := dqo_5 (kb_22 42 rfl)
theorem dL_law_1451 : decode cL_law 1451 = .ok (.iadd, 1) := dqo_96 (kb_22 43 rfl)
theorem dL_law_1452 : decode cL_law 1452 = .ok (.iaload, 1) := dqo_46 (kb_22 44 rfl)
theorem dL_law_1453 : decode cL_law 1453 = .ok (.ifCond .eq 7, 3) := dqo_153 0 7 (by decide) (kb_22 45 rfl) (kb_22 46 rfl) (kb_22 47 rfl)
theorem dL_law_1456 : decode cL_law 1456 = .ok (.iconst 1, 1) := dqo_4 (kb_22 48 rfl)
theorem dL_law_1457 : decode cL_law 1457 = .ok (.goto 4, 3) := dqo_167 0 4 (by decide) (kb_22 49 rfl) (kb_22 50 rfl) (kb_22 51 rfl)
theorem dL_law_1460 : decode cL_law 1460 = .ok (.iconst 0, 1) := dqo_3 (kb_22 52 rfl)
theorem dL_law_1461 : decode cL_law 1461 = .ok (.invokevirtual 272, 3) := dqo_182 1 16 (kb_22 53 rfl) (kb_22 54 rfl) (kb_22 55 rfl)
theorem dL_law_1464 : decode cL_law 1464 = .ok (.istore 6, 2) := dqo_54 6 (kb_22 56 rfl) (kb_22 57 rfl)
theorem dL_law_1466 : decode cL_law 1466 = .ok (.goto 662, 3) := dqo_167 2 150 (by decide) (kb_22 58 rfl) (kb_22 59 rfl) (kb_22 60 rfl)
theorem dL_law_1469 : decode cL_law 1469 = .ok (.aload_n 1, 1) := dqo_43 (kb_22 61 rfl)
theorem dL_law_1470 : decode cL_law 1470 = .ok (.aload_n 0, 1) := dqo_42 (kb_22 62 rfl)
theorem dL_law_1471 : decode cL_law 1471 = .ok (.iload 4, 2) := dqo_21 4 (kb_22 63 rfl) (kb_23 0 rfl)
theorem dL_law_1473 : decode cL_law 1473 = .ok (.iconst 1, 1) := dqo_4 (kb_23 1 rfl)
theorem dL_law_1474 : decode cL_law 1474 = .ok (.iadd, 1) := dqo_96 (kb_23 2 rfl)
theorem dL_law_1475 : decode cL_law 1475 = .ok (.iaload, 1) := dqo_46 (kb_23 3 rfl)
theorem dL_law_1476 : decode cL_law 1476 = .ok (.aload_n 0, 1) := dqo_42 (kb_23 4 rfl)
theorem dL_law_1477 : decode cL_law 1477 = .ok (.iload 4, 2) := dqo_21 4 (kb_23 5 rfl) (kb_23 6 rfl)
theorem dL_law_1479 : decode cL_law 1479 = .ok (.iconst 2, 1) := dqo_5 (kb_23 7 rfl)
theorem dL_law_1480 : decode cL_law 1480 = .ok (.iadd, 1) := dqo_96 (kb_23 8 rfl)
theorem dL_law_1481 : decode cL_law 1481 = .ok (.iaload, 1) := dqo_46 (kb_23 9 rfl)
theorem dL_law_1482 : decode cL_law 1482 = .ok (.aload_n 3, 1) := dqo_45 (kb_23 10 rfl)
theorem dL_law_1483 : decode cL_law 1483 = .ok (.invokestatic 273, 3) := dqo_184 1 17 (kb_23 11 rfl) (kb_23 12 rfl) (kb_23 13 rfl)
theorem dL_law_1486 : decode cL_law 1486 = .ok (.istore 5, 2) := dqo_54 5 (kb_23 14 rfl) (kb_23 15 rfl)
theorem dL_law_1488 : decode cL_law 1488 = .ok (.aload_n 2, 1) := dqo_44 (kb_23 16 rfl)
theorem dL_law_1489 : decode cL_law 1489 = .ok (.aload_n 0, 1) := dqo_42 (kb_23 17 rfl)
theorem dL_law_1490 : decode cL_law 1490 = .ok (.iload 4, 2) := dqo_21 4 (kb_23 18 rfl) (kb_23 19 rfl)
theorem dL_law_1492 : decode cL_law 1492 = .ok (.iconst 1, 1) := dqo_4 (kb_23 20 rfl)
theorem dL_law_1493 : decode cL_law 1493 = .ok (.iadd, 1) := dqo_96 (kb_23 21 rfl)
theorem dL_law_1494 : decode cL_law 1494 = .ok (.iaload, 1) := dqo_46 (kb_23 22 rfl)
theorem dL_law_1495 : decode cL_law 1495 = .ok (.aload_n 0, 1) := dqo_42 (kb_23 23 rfl)
theorem dL_law_1496 : decode cL_law 1496 = .ok (.iload 4, 2) := dqo_21 4 (kb_23 24 rfl) (kb_23 25 rfl)
theorem dL_law_1498 : decode cL_law 1498 = .ok (.iconst 2, 1) := dqo_5 (kb_23 26 rfl)
theorem dL_law_1499 : decode cL_law 1499 = .ok (.iadd, 1) := dqo_96 (kb_23 27 rfl)
theorem dL_law_1500 : decode cL_law 1500 = .ok (.iaload, 1) := dqo_46 (kb_23 28 rfl)
theorem dL_law_1501 : decode cL_law 1501 = .ok (.invokevirtual 275, 3) := dqo_182 1 19 (kb_23 29 rfl) (kb_23 30 rfl) (kb_23 31 rfl)
theorem dL_law_1504 : decode cL_law 1504 = .ok (.istore 6, 2) := dqo_54 6 (kb_23 32 rfl) (kb_23 33 rfl)
theorem dL_law_1506 : decode cL_law 1506 = .ok (.goto 622, 3) := dqo_167 2 110 (by decide) (kb_23 34 rfl) (kb_23 35 rfl) (kb_23 36 rfl)
theorem dL_law_1509 : decode cL_law 1509 = .ok (.aload_n 1, 1) := dqo_43 (kb_23 37 rfl)
theorem dL_law_1510 : decode cL_law 1510 = .ok (.aload_n 0, 1) := dqo_42 (kb_23 38 rfl)
theorem dL_law_1511 : decode cL_law 1511 = .ok (.iload 4, 2) := dqo_21 4 (kb_23 39 rfl) (kb_23 40 rfl)
theorem dL_law_1513 : decode cL_law 1513 = .ok (.iconst 1, 1) := dqo_4 (kb_23 41 rfl)
theorem dL_law_1514 : decode cL_law 1514 = .ok (.iadd, 1) := dqo_96 (kb_23 42 rfl)
theorem dL_law_1515 : decode cL_law 1515 = .ok (.iaload, 1) := dqo_46 (kb_23 43 rfl)
theorem dL_law_1516 : decode cL_law 1516 = .ok (.aload_n 0, 1) := dqo_42 (kb_23 44 rfl)
theorem dL_law_1517 : decode cL_law 1517 = .ok (.iload 4, 2) := dqo_21 4 (kb_23 45 rfl) (kb_23 46 rfl)
theorem dL_law_1519 : decode cL_law 1519 = .ok (.iconst 2, 1) := dqo_5 (kb_23 47 rfl)
theorem dL_law_1520 : decode cL_law 1520 = .ok (.iadd, 1) := dqo_96 (kb_23 48 rfl)
theorem dL_law_1521 : decode cL_law 1521 = .ok (.iaload, 1) := dqo_46 (kb_23 49 rfl)
theorem dL_law_1522 : decode cL_law 1522 = .ok (.aload_n 3, 1) := dqo_45 (kb_23 50 rfl)
theorem dL_law_1523 : decode cL_law 1523 = .ok (.invokestatic 276, 3) := dqo_184 1 20 (kb_23 51 rfl) (kb_23 52 rfl) (kb_23 53 rfl)
theorem dL_law_1526 : decode cL_law 1526 = .ok (.istore 5, 2) := dqo_54 5 (kb_23 54 rfl) (kb_23 55 rfl)
theorem dL_law_1528 : decode cL_law 1528 = .ok (.aload_n 2, 1) := dqo_44 (kb_23 56 rfl)
theorem dL_law_1529 : decode cL_law 1529 = .ok (.aload_n 0, 1) := dqo_42 (kb_23 57 rfl)
theorem dL_law_1530 : decode cL_law 1530 = .ok (.iload 4, 2) := dqo_21 4 (kb_23 58 rfl) (kb_23 59 rfl)
theorem dL_law_1532 : decode cL_law 1532 = .ok (.iconst 1, 1) := dqo_4 (kb_23 60 rfl)
theorem dL_law_1533 : decode cL_law 1533 = .ok (.iadd, 1) := dqo_96 (kb_23 61 rfl)
theorem dL_law_1534 : decode cL_law 1534 = .ok (.iaload, 1) := dqo_46 (kb_23 62 rfl)
theorem dL_law_1535 : decode cL_law 1535 = .ok (.aload_n 0, 1) := dqo_42 (kb_23 63 rfl)
theorem dL_law_1536 : decode cL_law 1536 = .ok (.iload 4, 2) := dqo_21 4 (kb_24 0 rfl) (kb_24 1 rfl)
theorem dL_law_1538 : decode cL_law 1538 = .ok (.iconst 2, 1) := dqo_5 (kb_24 2 rfl)
theorem dL_law_1539 : decode cL_law 1539 = .ok (.iadd, 1) := dqo_96 (kb_24 3 rfl)
theorem dL_law_1540 : decode cL_law 1540 = .ok (.iaload, 1) := dqo_46 (kb_24 4 rfl)
theorem dL_law_1541 : decode cL_law 1541 = .ok (.invokevirtual 278, 3) := dqo_182 1 22 (kb_24 5 rfl) (kb_24 6 rfl) (kb_24 7 rfl)
theorem dL_law_1544 : decode cL_law 1544 = .ok (.istore 6, 2) := dqo_54 6 (kb_24 8 rfl) (kb_24 9 rfl)
theorem dL_law_1546 : decode cL_law 1546 = .ok (.goto 582, 3) := dqo_167 2 70 (by decide) (kb_24 10 rfl) (kb_24 11 rfl) (kb_24 12 rfl)
theorem dL_law_1549 : decode cL_law 1549 = .ok (.aload_n 1, 1) := dqo_43 (kb_24 13 rfl)
theorem dL_law_1550 : decode cL_law 1550 = .ok (.aload_n 0, 1) := dqo_42 (kb_24 14 rfl)
theorem dL_law_1551 : decode cL_law 1551 = .ok (.iload 4, 2) := dqo_21 4 (kb_24 15 rfl) (kb_24 16 rfl)
theorem dL_law_1553 : decode cL_law 1553 = .ok (.iconst 1, 1) := dqo_4 (kb_24 17 rfl)
theorem dL_law_1554 : decode cL_law 1554 = .ok (.iadd, 1) := dqo_96 (kb_24 18 rfl)
theorem dL_law_1555 : decode cL_law 1555 = .ok (.iaload, 1) := dqo_46 (kb_24 19 rfl)
theorem dL_law_1556 : decode cL_law 1556 = .ok (.aload_n 3, 1) := dqo_45 (kb_24 20 rfl)
theorem dL_law_1557 : decode cL_law 1557 = .ok (.invokestatic 279, 3) := dqo_184 1 23 (kb_24 21 rfl) (kb_24 22 rfl) (kb_24 23 rfl)
theorem dL_law_1560 : decode cL_law 1560 = .ok (.istore 5, 2) := dqo_54 5 (kb_24 24 rfl) (kb_24 25 rfl)
theorem dL_law_1562 : decode cL_law 1562 = .ok (.aload_n 2, 1) := dqo_44 (kb_24 26 rfl)
theorem dL_law_1563 : decode cL_law 1563 = .ok (.aload_n 0, 1) := dqo_42 (kb_24 27 rfl)
theorem dL_law_1564 : decode cL_law 1564 = .ok (.iload 4, 2) := dqo_21 4 (kb_24 28 rfl) (kb_24 29 rfl)
theorem dL_law_1566 : decode cL_law 1566 = .ok (.iconst 1, 1) := dqo_4 (kb_24 30 rfl)
theorem dL_law_1567 : decode cL_law 1567 = .ok (.iadd, 1) := dqo_96 (kb_24 31 rfl)
theorem dL_law_1568 : decode cL_law 1568 = .ok (.iaload, 1) := dqo_46 (kb_24 32 rfl)
theorem dL_law_1569 : decode cL_law 1569 = .ok (.invokevirtual 281, 3) := dqo_182 1 25 (kb_24 33 rfl) (kb_24 34 rfl) (kb_24 35 rfl)
theorem dL_law_1572 : decode cL_law 1572 = .ok (.istore 6, 2) := dqo_54 6 (kb_24 36 rfl) (kb_24 37 rfl)
theorem dL_law_1574 : decode cL_law 1574 = .ok (.goto 554, 3) := dqo_167 2 42 (by decide) (kb_24 38 rfl) (kb_24 39 rfl) (kb_24 40 rfl)
theorem dL_law_1577 : decode cL_law 1577 = .ok (.aload_n 1, 1) := dqo_43 (kb_24 41 rfl)
theorem dL_law_1578 : decode cL_law 1578 = .ok (.aload_n 0, 1) := dqo_42 (kb_24 42 rfl)
theorem dL_law_1579 : decode cL_law 1579 = .ok (.iload 4, 2) := dqo_21 4 (kb_24 43 rfl) (kb_24 44 rfl)
theorem dL_law_1581 : decode cL_law 1581 = .ok (.iconst 1, 1) := dqo_4 (kb_24 45 rfl)
theorem dL_law_1582 : decode cL_law 1582 = .ok (.iadd, 1) := dqo_96 (kb_24 46 rfl)
theorem dL_law_1583 : decode cL_law 1583 = .ok (.iaload, 1) := dqo_46 (kb_24 47 rfl)
theorem dL_law_1584 : decode cL_law 1584 = .ok (.aload_n 3, 1) := dqo_45 (kb_24 48 rfl)
theorem dL_law_1585 : decode cL_law 1585 = .ok (.invokestatic 282, 3) := dqo_184 1 26 (kb_24 49 rfl) (kb_24 50 rfl) (kb_24 51 rfl)
theorem dL_law_1588 : decode cL_law 1588 = .ok (.istore 5, 2) := dqo_54 5 (kb_24 52 rfl) (kb_24 53 rfl)
theorem dL_law_1590 : decode cL_law 1590 = .ok (.aload_n 2, 1) := dqo_44 (kb_24 54 rfl)
theorem dL_law_1591 : decode cL_law 1591 = .ok (.aload_n 0, 1) := dqo_42 (kb_24 55 rfl)
theorem dL_law_1592 : decode cL_law 1592 = .ok (.iload 4, 2) := dqo_21 4 (kb_24 56 rfl) (kb_24 57 rfl)
theorem dL_law_1594 : decode cL_law 1594 = .ok (.iconst 1, 1) := dqo_4 (kb_24 58 rfl)
theorem dL_law_1595 : decode cL_law 1595 = .ok (.iadd, 1) := dqo_96 (kb_24 59 rfl)
theorem dL_law_1596 : decode cL_law 1596 = .ok (.iaload, 1) := dqo_46 (kb_24 60 rfl)
theorem dL_law_1597 : decode cL_law 1597 = .ok (.invokevirtual 284, 3) := dqo_182 1 28 (kb_24 61 rfl) (kb_24 62 rfl) (kb_24 63 rfl)
theorem dL_law_1600 : decode cL_law 1600 = .ok (.astore 6, 2) := dqo_58 6 (kb_25 0 rfl) (kb_25 1 rfl)
theorem dL_law_1602 : decode cL_law 1602 = .ok (.goto 526, 3) := dqo_167 2 14 (by decide) (kb_25 2 rfl) (kb_25 3 rfl) (kb_25 4 rfl)
theorem dL_law_1605 : decode cL_law 1605 = .ok (.aload_n 1, 1) := dqo_43 (kb_25 5 rfl)
theorem dL_law_1606 : decode cL_law 1606 = .ok (.aload_n 0, 1) := dqo_42 (kb_25 6 rfl)
theorem dL_law_1607 : decode cL_law 1607 = .ok (.iload 4, 2) := dqo_21 4 (kb_25 7 rfl) (kb_25 8 rfl)
theorem dL_law_1609 : decode cL_law 1609 = .ok (.iconst 1, 1) := dqo_4 (kb_25 9 rfl)
theorem dL_law_1610 : decode cL_law 1610 = .ok (.iadd, 1) := dqo_96 (kb_25 10 rfl)
theorem dL_law_1611 : decode cL_law 1611 = .ok (.iaload, 1) := dqo_46 (kb_25 11 rfl)
theorem dL_law_1612 : decode cL_law 1612 = .ok (.aload_n 0, 1) := dqo_42 (kb_25 12 rfl)
theorem dL_law_1613 : decode cL_law 1613 = .ok (.iload 4, 2) := dqo_21 4 (kb_25 13 rfl) (kb_25 14 rfl)
theorem dL_law_1615 : decode cL_law 1615 = .ok (.iconst 2, 1) := dqo_5 (kb_25 15 rfl)
theorem dL_law_1616 : decode cL_law 1616 = .ok (.iadd, 1) := dqo_96 (kb_25 16 rfl)
theorem dL_law_1617 : decode cL_law 1617 = .ok (.iaload, 1) := dqo_46 (kb_25 17 rfl)
theorem dL_law_1618 : decode cL_law 1618 = .ok (.aload_n 3, 1) := dqo_45 (kb_25 18 rfl)
theorem dL_law_1619 : decode cL_law 1619 = .ok (.invokestatic 285, 3) := dqo_184 1 29 (kb_25 19 rfl) (kb_25 20 rfl) (kb_25 21 rfl)
theorem dL_law_1622 : decode cL_law 1622 = .ok (.istore 5, 2) := dqo_54 5 (kb_25 22 rfl) (kb_25 23 rfl)
theorem dL_law_1624 : decode cL_law 1624 = .ok (.aload_n 2, 1) := dqo_44 (kb_25 24 rfl)
theorem dL_law_1625 : decode cL_law 1625 = .ok (.aload_n 0, 1) := dqo_42 (kb_25 25 rfl)
theorem dL_law_1626 : decode cL_law 1626 = .ok (.iload 4, 2) := dqo_21 4 (kb_25 26 rfl) (kb_25 27 rfl)
theorem dL_law_1628 : decode cL_law 1628 = .ok (.iconst 1, 1) := dqo_4 (kb_25 28 rfl)
theorem dL_law_1629 : decode cL_law 1629 = .ok (.iadd, 1) := dqo_96 (kb_25 29 rfl)
theorem dL_law_1630 : decode cL_law 1630 = .ok (.iaload, 1) := dqo_46 (kb_25 30 rfl)
theorem dL_law_1631 : decode cL_law 1631 = .ok (.aload_n 0, 1) := dqo_42 (kb_25 31 rfl)
theorem dL_law_1632 : decode cL_law 1632 = .ok (.iload 4, 2) := dqo_21 4 (kb_25 32 rfl) (kb_25 33 rfl)
theorem dL_law_1634 : decode cL_law 1634 = .ok (.iconst 2, 1) := dqo_5 (kb_25 34 rfl)
theorem dL_law_1635 : decode cL_law 1635 = .ok (.iadd, 1) := dqo_96 (kb_25 35 rfl)
theorem dL_law_1636 : decode cL_law 1636 = .ok (.iaload, 1) := dqo_46 (kb_25 36 rfl)
theorem dL_law_1637 : decode cL_law 1637 = .ok (.invokevirtual 287, 3) := dqo_182 1 31 (kb_25 37 rfl) (kb_25 38 rfl) (kb_25 39 rfl)
theorem dL_law_1640 : decode cL_law 1640 = .ok (.istore 6, 2) := dqo_54 6 (kb_25 40 rfl) (kb_25 41 rfl)
theorem dL_law_1642 : decode cL_law 1642 = .ok (.goto 486, 3) := dqo_167 1 230 (by decide) (kb_25 42 rfl) (kb_25 43 rfl) (kb_25 44 rfl)
theorem dL_law_1645 : decode cL_law 1645 = .ok (.aload_n 1, 1) := dqo_43 (kb_25 45 rfl)
theorem dL_law_1646 : decode cL_law 1646 = .ok (.aload_n 0, 1) := dqo_42 (kb_25 46 rfl)
theorem dL_law_1647 : decode cL_law 1647 = .ok (.iload 4, 2) := dqo_21 4 (kb_25 47 rfl) (kb_25 48 rfl)
theorem dL_law_1649 : decode cL_law 1649 = .ok (.iconst 1, 1) := dqo_4 (kb_25 49 rfl)
theorem dL_law_1650 : decode cL_law 1650 = .ok (.iadd, 1) := dqo_96 (kb_25 50 rfl)
theorem dL_law_1651 : decode cL_law 1651 = .ok (.iaload, 1) := dqo_46 (kb_25 51 rfl)
theorem dL_law_1652 : decode cL_law 1652 = .ok (.aload_n 0, 1) := dqo_42 (kb_25 52 rfl)
theorem dL_law_1653 : decode cL_law 1653 = .ok (.iload 4, 2) := dqo_21 4 (kb_25 53 rfl) (kb_25 54 rfl)
theorem dL_law_1655 : decode cL_law 1655 = .ok (.iconst 2, 1) := dqo_5 (kb_25 55 rfl)
theorem dL_law_1656 : decode cL_law 1656 = .ok (.iadd, 1) := dqo_96 (kb_25 56 rfl)
theorem dL_law_1657 : decode cL_law 1657 = .ok (.iaload, 1) := dqo_46 (kb_25 57 rfl)
theorem dL_law_1658 : decode cL_law 1658 = .ok (.aload_n 0, 1) := dqo_42 (kb_25 58 rfl)
theorem dL_law_1659 : decode cL_law 1659 = .ok (.iload 4, 2) := dqo_21 4 (kb_25 59 rfl) (kb_25 60 rfl)
theorem dL_law_1661 : decode cL_law 1661 = .ok (.iconst 3, 1) := dqo_6 (kb_25 61 rfl)
theorem dL_law_1662 : decode cL_law 1662 = .ok (.iadd, 1) := dqo_96 (kb_25 62 rfl)
theorem dL_law_1663 : decode cL_law 1663 = .ok (.iaload, 1) := dqo_46 (kb_25 63 rfl)
theorem dL_law_1664 : decode cL_law 1664 = .ok (.aload_n 0, 1) := dqo_42 (kb_26 0 rfl)
theorem dL_law_1665 : decode cL_law 1665 = .ok (.iload 4, 2) := dqo_21 4 (kb_26 1 rfl) (kb_26 2 rfl)
theorem dL_law_1667 : decode cL_law 1667 = .ok (.iconst 4, 1) := dqo_7 (kb_26 3 rfl)
theorem dL_law_1668 : decode cL_law 1668 = .ok (.iadd, 1) := dqo_96 (kb_26 4 rfl)
theorem dL_law_1669 : decode cL_law 1669 = .ok (.iaload, 1) := dqo_46 (kb_26 5 rfl)
theorem dL_law_1670 : decode cL_law 1670 = .ok (.aload_n 3, 1) := dqo_45 (kb_26 6 rfl)
theorem dL_law_1671 : decode cL_law 1671 = .ok (.invokestatic 288, 3) := dqo_184 1 32 (kb_26 7 rfl) (kb_26 8 rfl) (kb_26 9 rfl)
theorem dL_law_1674 : decode cL_law 1674 = .ok (.istore 5, 2) := dqo_54 5 (kb_26 10 rfl) (kb_26 11 rfl)
theorem dL_law_1676 : decode cL_law 1676 = .ok (.aload_n 2, 1) := dqo_44 (kb_26 12 rfl)
theorem dL_law_1677 : decode cL_law 1677 = .ok (.aload_n 0, 1) := dqo_42 (kb_26 13 rfl)
theorem dL_law_1678 : decode cL_law 1678 = .ok (.iload 4, 2) := dqo_21 4 (kb_26 14 rfl) (kb_26 15 rfl)
theorem dL_law_1680 : decode cL_law 1680 = .ok (.iconst 1, 1) := dqo_4 (kb_26 16 rfl)
theorem dL_law_1681 : decode cL_law 1681 = .ok (.iadd, 1) := dqo_96 (kb_26 17 rfl)
theorem dL_law_1682 : decode cL_law 1682 = .ok (.iaload, 1) := dqo_46 (kb_26 18 rfl)
theorem dL_law_1683 : decode cL_law 1683 = .ok (.aload_n 0, 1) := dqo_42 (kb_26 19 rfl)
theorem dL_law_1684 : decode cL_law 1684 = .ok (.iload 4, 2) := dqo_21 4 (kb_26 20 rfl) (kb_26 21 rfl)
theorem dL_law_1686 : decode cL_law 1686 = .ok (.iconst 2, 1) := dqo_5 (kb_26 22 rfl)
theorem dL_law_1687 : decode cL_law 1687 = .ok (.iadd, 1) := dqo_96 (kb_26 23 rfl)
theorem dL_law_1688 : decode cL_law 1688 = .ok (.iaload, 1) := dqo_46 (kb_26 24 rfl)
theorem dL_law_1689 : decode cL_law 1689 = .ok (.aload_n 0, 1) := dqo_42 (kb_26 25 rfl)
theorem dL_law_1690 : decode cL_law 1690 = .ok (.iload 4, 2) := dqo_21 4 (kb_26 26 rfl) (kb_26 27 rfl)
theorem dL_law_1692 : decode cL_law 1692 = .ok (.iconst 3, 1) := dqo_6 (kb_26 28 rfl)
theorem dL_law_1693 : decode cL_law 1693 = .ok (.iadd, 1) := dqo_96 (kb_26 29 rfl)
theorem dL_law_1694 : decode cL_law 1694 = .ok (.iaload, 1) := dqo_46 (kb_26 30 rfl)
theorem dL_law_1695 : decode cL_law 1695 = .ok (.aload_n 0, 1) := dqo_42 (kb_26 31 rfl)
theorem dL_law_1696 : decode cL_law 1696 = .ok (.iload 4, 2) := dqo_21 4 (kb_26 32 rfl) (kb_26 33 rfl)
theorem dL_law_1698 : decode cL_law 1698 = .ok (.iconst 4, 1) := dqo_7 (kb_26 34 rfl)
theorem dL_law_1699 : decode cL_law 1699 = .ok (.iadd, 1) := dqo_96 (kb_26 35 rfl)
theorem dL_law_1700 : decode cL_law 1700 = .ok (.iaload, 1) := dqo_46 (kb_26 36 rfl)
theorem dL_law_1701 : decode cL_law 1701 = .ok (.invokevirtual 290, 3) := dqo_182 1 34 (kb_26 37 rfl) (kb_26 38 rfl) (kb_26 39 rfl)
theorem dL_law_1704 : decode cL_law 1704 = .ok (.istore 6, 2) := dqo_54 6 (kb_26 40 rfl) (kb_26 41 rfl)
theorem dL_law_1706 : decode cL_law 1706 = .ok (.goto 422, 3) := dqo_167 1 166 (by decide) (kb_26 42 rfl) (kb_26 43 rfl) (kb_26 44 rfl)
theorem dL_law_1709 : decode cL_law 1709 = .ok (.aload_n 1, 1) := dqo_43 (kb_26 45 rfl)
theorem dL_law_1710 : decode cL_law 1710 = .ok (.aload_n 0, 1) := dqo_42 (kb_26 46 rfl)
theorem dL_law_1711 : decode cL_law 1711 = .ok (.iload 4, 2) := dqo_21 4 (kb_26 47 rfl) (kb_26 48 rfl)
theorem dL_law_1713 : decode cL_law 1713 = .ok (.iconst 1, 1) := dqo_4 (kb_26 49 rfl)
theorem dL_law_1714 : decode cL_law 1714 = .ok (.iadd, 1) := dqo_96 (kb_26 50 rfl)
theorem dL_law_1715 : decode cL_law 1715 = .ok (.iaload, 1) := dqo_46 (kb_26 51 rfl)
theorem dL_law_1716 : decode cL_law 1716 = .ok (.aload_n 3, 1) := dqo_45 (kb_26 52 rfl)
theorem dL_law_1717 : decode cL_law 1717 = .ok (.invokestatic 291, 3) := dqo_184 1 35 (kb_26 53 rfl) (kb_26 54 rfl) (kb_26 55 rfl)
theorem dL_law_1720 : decode cL_law 1720 = .ok (.istore 5, 2) := dqo_54 5 (kb_26 56 rfl) (kb_26 57 rfl)
theorem dL_law_1722 : decode cL_law 1722 = .ok (.aload_n 2, 1) := dqo_44 (kb_26 58 rfl)
theorem dL_law_1723 : decode cL_law 1723 = .ok (.aload_n 0, 1) := dqo_42 (kb_26 59 rfl)
theorem dL_law_1724 : decode cL_law 1724 = .ok (.iload 4, 2) := dqo_21 4 (kb_26 60 rfl) (kb_26 61 rfl)
theorem dL_law_1726 : decode cL_law 1726 = .ok (.iconst 1, 1) := dqo_4 (kb_26 62 rfl)
theorem dL_law_1727 : decode cL_law 1727 = .ok (.iadd, 1) := dqo_96 (kb_26 63 rfl)
theorem dL_law_1728 : decode cL_law 1728 = .ok (.iaload, 1) := dqo_46 (kb_27 0 rfl)
theorem dL_law_1729 : decode cL_law 1729 = .ok (.invokevirtual 293, 3) := dqo_182 1 37 (kb_27 1 rfl) (kb_27 2 rfl) (kb_27 3 rfl)
theorem dL_law_1732 : decode cL_law 1732 = .ok (.istore 6, 2) := dqo_54 6 (kb_27 4 rfl) (kb_27 5 rfl)
theorem dL_law_1734 : decode cL_law 1734 = .ok (.goto 394, 3) := dqo_167 1 138 (by decide) (kb_27 6 rfl) (kb_27 7 rfl) (kb_27 8 rfl)
theorem S_indexOf {p : Program} {l : Launch} {e : Env} {s : State} {m : MethodId} {args : Array Value} {below : List Frame} {meth : Method} {c : Code} {D : va_G} {cy : Nat → ClassId} {A : Nat → Prop} {Q : State → Prop} {X : (Nat → Prop) → State → Heap → Prop} {aK aV : Nat → Nat} {tO tT : Nat} {gO gT : Nat → Int32} {a : Nat → Nat → Nat} {ba : Nat → Nat} {o b L i cells slots : Nat} {xs : Nat → Int32} {w : va_W} (C : Fg p s m args meth c cL_law 7 RL D cy A) (hE : X A s s.heap) (hT : EnvT X cy aK aV tO tT gO gT) (hN : EnvN X) (hl : l.stackTraces = false) (hx : va_X b L xs s s.heap) (hbl : b < s.heap.size) (hbA : ¬ A b) (hi : i + 5 ≤ L) (hL : L ≤ 2560) (hc : cells + 500 ≤ room_1.cells) (hs : slots + 10000 ≤ room_1.slots) (hJ : JW cy a ba o w) (kk : ∀ w' : va_W, JW cy a ba o w' → vW p l e room_1 s m args below meth c D vwCl A Q 7 (cells + 500) (slots + 10000) w' [some (.ref b), some (.ref (a 0 0)), some (.ref (ba 9)), some (.ref o), some (.int (nI i)), none, none] 2128 []) : vW p l e room_1 s m args below meth c D vwCl A Q 7 cells slots w [some (.ref b), some (.ref (a 0 0)), some (.ref (ba 9)), some (.ref o), some (.int (nI i)), none, none] 1253 [] := by
  have hX := hT.1.1
  obtain ⟨f, r, hf, hq, kn, ra, th, sm, n, v, hC, hB, hM, rfl⟩ := hJ
  refine r_aload_n C dL_law_1253 rfl ?_
  refine r_aload_n C dL_law_1254 rfl ?_
  refine r_iload C dL_law_1255 rfl ?_
  refine r_iconst (v := nI 1) C dL_law_1257 (by decide) ?_
  refine r_iaddN C dL_law_1258 ?_
  refine r_sld C hx hbl hbA (show i + 1 < L by omega) (by omega) dL_law_1259 ?_
  refine r_aload_n C dL_law_1260 rfl ?_
  refine r_iload C dL_law_1261 rfl ?_
  refine r_iconst (v := nI 2) C dL_law_1263 (by decide) ?_
  refine r_iaddN C dL_law_1264 ?_
  refine r_sld C hx hbl hbA (show i + 2 < L by omega) (by omega) dL_law_1265 ?_
  refine r_aload_n C dL_law_1266 rfl ?_
  refine c_SH (st := []) hX.1.stb C hE (W_indexOf hX.1 hN hC hB hM (P_indexOf hX hl hC hB hM (xs (i + 1)) (xs (i + 2)))) pk_L_indexOf qm_L_257 rfl rfl (Nat.le_of_ble_eq_true rfl) dL_law_1267 ⟨(Nat.le_of_ble_eq_true rfl), (Nat.le_of_ble_eq_true rfl)⟩ ⟨show cells + 1 ≤ room_1.cells by omega, show slots + 6 ≤ room_1.slots by omega⟩ (fun v9 w9 h9 => ?_) (fun _ h9 => h9.elim)
  obtain ⟨f', r', k, n1, rfl, rfl, hf', hq', n2, hC', hB', hM', hk0, hk4, h2⟩ := h9
  refine r_istore C dL_law_1270 (by decide) rfl ?_
  refine r_aload_n C dL_law_1272 rfl ?_
  refine r_aload_n C dL_law_1273 rfl ?_
  refine r_iload C dL_law_1274 rfl ?_
  refine r_iconst (v := nI 1) C dL_law_1276 (by decide) ?_
  refine r_iaddN C dL_law_1277 ?_
  refine r_sld C hx hbl hbA (show i + 1 < L by omega) (by omega) dL_law_1278 ?_
  refine r_aload_n C dL_law_1279 rfl ?_
  refine r_iload C dL_law_1280 rfl ?_
  refine r_iconst (v := nI 2) C dL_law_1282 (by decide) ?_
  refine r_iaddN C dL_law_1283 ?_
  refine r_sld C hx hbl hbA (show i + 2 < L by omega) (by omega) dL_law_1284 ?_
  refine t_swap3 ?_
  refine c_V (st := []) hX.1.stb C hE (h2 _) pk_X4_indexOf qm_L_259 0 8 rfl rfl wm_0 rfl rfl (Nat.le_of_ble_eq_true rfl) dL_law_1285 ⟨(Nat.le_of_ble_eq_true rfl), (Nat.le_of_ble_eq_true rfl)⟩ ⟨show cells + 1 + 4 ≤ room_1.cells by omega, show slots + 6 + 48 ≤ room_1.slots by omega⟩ (fun v9 w9 h9 => ?_) (fun _ h9 => h9.elim)
  obtain ⟨ra9, rfl, rfl⟩ := h9
  refine r_istore C dL_law_1288 (by decide) rfl ?_
  refine t_swap3 ?_
  refine r_goto (tgt := 2128) C dL_law_1290 (by decide) ?_
  refine r_widen (k := cells + 500) (n := slots + 10000) (show cells + 1 + 4 ≤ cells + 500 by omega) (show slots + 6 + 48 ≤ slots + 10000 by omega) ?_
  refine r_drop 5 ?_
  refine r_drop 6 ?_
  exact kk _ ⟨f', r', hf', hq', kn, ra9, _, sm, _, _, hC', hB', hM', rfl⟩
theorem S_lastIndexOf {p : Program} {l : Launch} {e : Env} {s : State} {m : MethodId} {args : Array Value} {below : List Frame} {meth : Method} {c : Code} {D : va_G} {cy : Nat → ClassId} {A : Nat → Prop} {Q : State → Prop} {X : (Nat → Prop) → State → Heap → Prop} {aK aV : Nat → Nat} {tO tT : Nat} {gO gT : Nat → Int32} {a : Nat → Nat → Nat} {ba : Nat → Nat} {o b L i cells slots : Nat} {xs : Nat → Int32} {w : va_W} (C : Fg p s m args meth c cL_law 7 RL D cy A) (hE : X A s s.heap) (hT : EnvT X cy aK aV tO tT gO gT) (hN : EnvN X) (hl : l.stackTraces = false) (hx : va_X b L xs s s.heap) (hbl : b < s.heap.size) (hbA : ¬ A b) (hi : i + 5 ≤ L) (hL : L ≤ 2560) (hc : cells + 500 ≤ room_1.cells) (hs : slots + 10000 ≤ room_1.slots) (hJ : JW cy a ba o w) (kk : ∀ w' : va_W, JW cy a ba o w' → vW p l e room_1 s m args below meth c D vwCl A Q 7 (cells + 500) (slots + 10000) w' [some (.ref b), some (.ref (a 0 0)), some (.ref (ba 9)), some (.ref o), some (.int (nI i)), none, none] 2128 []) : vW p l e room_1 s m args below meth c D vwCl A Q 7 cells slots w [some (.ref b), some (.ref (a 0 0)), some (.ref (ba 9)), some (.ref o), some (.int (nI i)), none, none] 1293 [] := by
  have hX := hT.1.1
  obtain ⟨f, r, hf, hq, kn, ra, th, sm, n, v, hC, hB, hM, rfl⟩ := hJ
  refine r_aload_n C dL_law_1293 rfl ?_
  refine r_aload_n C dL_law_1294 rfl ?_
  refine r_iload C dL_law_1295 rfl ?_
  refine r_iconst (v := nI 1) C dL_law_1297 (by decide) ?_
  refine r_iaddN C dL_law_1298 ?_
  refine r_sld C hx hbl hbA (show i + 1 < L by omega) (by omega) dL_law_1299 ?_
  refine r_aload_n C dL_law_1300 rfl ?_
  refine r_iload C dL_law_1301 rfl ?_
  refine r_iconst (v := nI 2) C dL_law_1303 (by decide) ?_
  refine r_iaddN C dL_law_1304 ?_
  refine r_sld C hx hbl hbA (show i + 2 < L by omega) (by omega) dL_law_1305 ?_
  refine r_aload_n C dL_law_1306 rfl ?_
  refine c_SH (st := []) hX.1.stb C hE (W_lastIndexOf hX.1 hN hC hB hM (P_lastIndexOf hX hl hC hB hM (xs (i + 1)) (xs (i + 2)))) pk_L_lastIndexOf qm_L_260 rfl rfl (Nat.le_of_ble_eq_true rfl) dL_law_1307 ⟨(Nat.le_of_ble_eq_true rfl), (Nat.le_of_ble_eq_true rfl)⟩ ⟨show cells + 1 ≤ room_1.cells by omega, show slots + 6 ≤ room_1.slots by omega⟩ (fun v9 w9 h9 => ?_) (fun _ h9 => h9.elim)
  obtain ⟨f', r', k, n1, rfl, rfl, hf', hq', n2, hC', hB', hM', hk0, hk4, h2⟩ := h9
  refine r_istore C dL_law_1310 (by decide) rfl ?_
  refine r_aload_n C dL_law_1312 rfl ?_
  refine r_aload_n C dL_law_1313 rfl ?_
  refine r_iload C dL_law_1314 rfl ?_
  refine r_iconst (v := nI 1) C dL_law_1316 (by decide) ?_
  refine r_iaddN C dL_law_1317 ?_
  refine r_sld C hx hbl hbA (show i + 1 < L by omega) (by omega) dL_law_1318 ?_
  refine r_aload_n C dL_law_1319 rfl ?_
  refine r_iload C dL_law_1320 rfl ?_
  refine r_iconst (v := nI 2) C dL_law_1322 (by decide) ?_
  refine r_iaddN C dL_law_1323 ?_
  refine r_sld C hx hbl hbA (show i + 2 < L by omega) (by omega) dL_law_1324 ?_
  refine t_swap3 ?_
  refine c_V (st := []) hX.1.stb C hE (h2 _) pk_X4_lastIndexOf qm_L_262 0 8 rfl rfl wm_0 rfl rfl (Nat.le_of_ble_eq_true rfl) dL_law_1325 ⟨(Nat.le_of_ble_eq_true rfl), (Nat.le_of_ble_eq_true rfl)⟩ ⟨show cells + 1 + 4 ≤ room_1.cells by omega, show slots + 6 + 48 ≤ room_1.slots by omega⟩ (fun v9 w9 h9 => ?_) (fun _ h9 => h9.elim)
  obtain ⟨ra9, rfl, rfl⟩ := h9
  refine r_istore C dL_law_1328 (by decide) rfl ?_
  refine t_swap3 ?_
  refine r_goto (tgt := 2128) C dL_law_1330 (by decide) ?_
  refine r_widen (k := cells + 500) (n := slots + 10000) (show cells + 1 + 4 ≤ cells + 500 by omega) (show slots + 6 + 48 ≤ slots + 10000 by omega) ?_
  refine r_drop 5 ?_
  refine r_drop 6 ?_
  exact kk _ ⟨f', r', hf', hq', kn, ra9, _, sm, _, _, hC', hB', hM', rfl⟩
theorem S_contains {p : Program} {l : Launch} {e : Env} {s : State} {m : MethodId} {args : Array Value} {below : List Frame} {meth : Method} {c : Code} {D : va_G} {cy : Nat → ClassId} {A : Nat → Prop} {Q : State → Prop} {X : (Nat → Prop) → State → Heap → Prop} {aK aV : Nat → Nat} {tO tT : Nat} {gO gT : Nat → Int32} {a : Nat → Nat → Nat} {ba : Nat → Nat} {o b L i cells slots : Nat} {xs : Nat → Int32} {w : va_W} (C : Fg p s m args meth c cL_law 7 RL D cy A) (hE : X A s s.heap) (hT : EnvT X cy aK aV tO tT gO gT) (hN : EnvN X) (hl : l.stackTraces = false) (hx : va_X b L xs s s.heap) (hbl : b < s.heap.size) (hbA : ¬ A b) (hi : i + 5 ≤ L) (hL : L ≤ 2560) (hc : cells + 500 ≤ room_1.cells) (hs : slots + 10000 ≤ room_1.slots) (hJ : JW cy a ba o w) (kk : ∀ w' : va_W, JW cy a ba o w' → vW p l e room_1 s m args below meth c D vwCl A Q 7 (cells + 500) (slots + 10000) w' [some (.ref b), some (.ref (a 0 0)), some (.ref (ba 9)), some (.ref o), some (.int (nI i)), none, none] 2128 []) : vW p l e room_1 s m args below meth c D vwCl A Q 7 cells slots w [some (.ref b), some (.ref (a 0 0)), some (.ref (ba 9)), some (.ref o), some (.int (nI i)), none, none] 1333 [] := by
  have hX := hT.1.1
  obtain ⟨f, r, hf, hq, kn, ra, th, sm, n, v, hC, hB, hM, rfl⟩ := hJ
  refine r_aload_n C dL_law_1333 rfl ?_
  refine r_aload_n C dL_law_1334 rfl ?_
  refine r_iload C dL_law_1335 rfl ?_
  refine r_iconst (v := nI 1) C dL_law_1337 (by decide) ?_
  refine r_iaddN C dL_law_1338 ?_
  refine r_sld C hx hbl hbA (show i + 1 < L by omega) (by omega) dL_law_1339 ?_
  refine r_aload_n C dL_law_1340 rfl ?_
  refine r_iload C dL_law_1341 rfl ?_
  refine r_iconst (v := nI 2) C dL_law_1343 (by decide) ?_
  refine r_iaddN C dL_law_1344 ?_
  refine r_sld C hx hbl hbA (show i + 2 < L by omega) (by omega) dL_law_1345 ?_
  refine r_aload_n C dL_law_1346 rfl ?_
  refine c_SH (st := []) hX.1.stb C hE (W_contains hX.1 hN hC hB hM (P_contains hX hl hC hB hM (xs (i + 1)) (xs (i + 2)))) pk_L_contains qm_L_263 rfl rfl (Nat.le_of_ble_eq_true rfl) dL_law_1347 ⟨(Nat.le_of_ble_eq_true rfl), (Nat.le_of_ble_eq_true rfl)⟩ ⟨show cells + 1 ≤ room_1.cells by omega, show slots + 6 ≤ room_1.slots by omega⟩ (fun v9 w9 h9 => ?_) (fun _ h9 => h9.elim)
  obtain ⟨f', r', k, n1, rfl, rfl, hf', hq', n2, hC', hB', hM', hk0, hk4, h2⟩ := h9
  refine r_istore C dL_law_1350 (by decide) rfl ?_
  refine r_aload_n C dL_law_1352 rfl ?_
  refine r_aload_n C dL_law_1353 rfl ?_
  refine r_iload C dL_law_1354 rfl ?_
  refine r_iconst (v := nI 1) C dL_law_1356 (by decide) ?_
  refine r_iaddN C dL_law_1357 ?_
  refine r_sld C hx hbl hbA (show i + 1 < L by omega) (by omega) dL_law_1358 ?_
  refine r_aload_n C dL_law_1359 rfl ?_
  refine r_iload C dL_law_1360 rfl ?_
  refine r_iconst (v := nI 2) C dL_law_1362 (by decide) ?_
  refine r_iaddN C dL_law_1363 ?_
  refine r_sld C hx hbl hbA (show i + 2 < L by omega) (by omega) dL_law_1364 ?_
  refine t_swap3 ?_
  refine c_V (st := []) hX.1.stb C hE (h2 _) pk_X4_contains qm_L_265 0 8 rfl rfl wm_0 rfl rfl (Nat.le_of_ble_eq_true rfl) dL_law_1365 ⟨(Nat.le_of_ble_eq_true rfl), (Nat.le_of_ble_eq_true rfl)⟩ ⟨show cells + 1 + 4 ≤ room_1.cells by omega, show slots + 6 + 48 ≤ room_1.slots by omega⟩ (fun v9 w9 h9 => ?_) (fun _ h9 => h9.elim)
  obtain ⟨ra9, rfl, rfl⟩ := h9
  refine r_istore C dL_law_1368 (by decide) rfl ?_
  refine t_swap3 ?_
  refine r_goto (tgt := 2128) C dL_law_1370 (by decide) ?_
  refine r_widen (k := cells + 500) (n := slots + 10000) (show cells + 1 + 4 ≤ cells + 500 by omega) (show slots + 6 + 48 ≤ slots + 10000 by omega) ?_
  refine r_drop 5 ?_
  refine r_drop 6 ?_
  exact kk _ ⟨f', r', hf', hq', kn, ra9, _, sm, _, _, hC', hB', hM', rfl⟩
theorem S_howOften {p : Program} {l : Launch} {e : Env} {s : State} {m : MethodId} {args : Array Value} {below : List Frame} {meth : Method} {c : Code} {D : va_G} {cy : Nat → ClassId} {A : Nat → Prop} {Q : State → Prop} {X : (Nat → Prop) → State → Heap → Prop} {aK aV : Nat → Nat} {tO tT : Nat} {gO gT : Nat → Int32} {a : Nat → Nat → Nat} {ba : Nat → Nat} {o b L i cells slots : Nat} {xs : Nat → Int32} {w : va_W} (C : Fg p s m args meth c cL_law 7 RL D cy A) (hE : X A s s.heap) (hT : EnvT X cy aK aV tO tT gO gT) (hN : EnvN X) (hl : l.stackTraces = false) (hx : va_X b L xs s s.heap) (hbl : b < s.heap.size) (hbA : ¬ A b) (hi : i + 5 ≤ L) (hL : L ≤ 2560) (hc : cells + 500 ≤ room_1.cells) (hs : slots + 10000 ≤ room_1.slots) (hJ : JW cy a ba o w) (kk : ∀ w' : va_W, JW cy a ba o w' → vW p l e room_1 s m args below meth c D vwCl A Q 7 (cells + 500) (slots + 10000) w' [some (.ref b), some (.ref (a 0 0)), some (.ref (ba 9)), some (.ref o), some (.int (nI i)), none, none] 2128 []) : vW p l e room_1 s m args below meth c D vwCl A Q 7 cells slots w [some (.ref b), some (.ref (a 0 0)), some (.ref (ba 9)), some (.ref o), some (.int (nI i)), none, none] 1373 [] := by
  have hX := hT.1.1
  obtain ⟨f, r, hf, hq, kn, ra, th, sm, n, v, hC, hB, hM, rfl⟩ := hJ
  refine r_aload_n C dL_law_1373 rfl ?_
  refine r_aload_n C dL_law_1374 rfl ?_
  refine r_iload C dL_law_1375 rfl ?_
  refine r_iconst (v := nI 1) C dL_law_1377 (by decide) ?_
  refine r_iaddN C dL_law_1378 ?_
  refine r_sld C hx hbl hbA (show i + 1 < L by omega) (by omega) dL_law_1379 ?_
  refine r_aload_n C dL_law_1380 rfl ?_
  refine r_iload C dL_law_1381 rfl ?_
  refine r_iconst (v := nI 2) C dL_law_1383 (by decide) ?_
  refine r_iaddN C dL_law_1384 ?_
  refine r_sld C hx hbl hbA (show i + 2 < L by omega) (by omega) dL_law_1385 ?_
  refine r_aload_n C dL_law_1386 rfl ?_
  refine c_SH (st := []) hX.1.stb C hE (W_howOften hX.1 hN hC hB hM (P_howOften hX hl hC hB hM (xs (i + 1)) (xs (i + 2)))) pk_L_howOften qm_L_266 rfl rfl (Nat.le_of_ble_eq_true rfl) dL_law_1387 ⟨(Nat.le_of_ble_eq_true rfl), (Nat.le_of_ble_eq_true rfl)⟩ ⟨show cells + 1 ≤ room_1.cells by omega, show slots + 6 ≤ room_1.slots by omega⟩ (fun v9 w9 h9 => ?_) (fun _ h9 => h9.elim)
  obtain ⟨f', r', k, n1, rfl, rfl, hf', hq', n2, hC', hB', hM', hk0, hk4, h2⟩ := h9
  refine r_istore C dL_law_1390 (by decide) rfl ?_
  refine r_aload_n C dL_law_1392 rfl ?_
  refine r_aload_n C dL_law_1393 rfl ?_
  refine r_iload C dL_law_1394 rfl ?_
  refine r_iconst (v := nI 1) C dL_law_1396 (by decide) ?_
  refine r_iaddN C dL_law_1397 ?_
  refine r_sld C hx hbl hbA (show i + 1 < L by omega) (by omega) dL_law_1398 ?_
  refine r_aload_n C dL_law_1399 rfl ?_
  refine r_iload C dL_law_1400 rfl ?_
  refine r_iconst (v := nI 2) C dL_law_1402 (by decide) ?_
  refine r_iaddN C dL_law_1403 ?_
  refine r_sld C hx hbl hbA (show i + 2 < L by omega) (by omega) dL_law_1404 ?_
  refine t_swap3 ?_
  refine c_V (st := []) hX.1.stb C hE (h2 _) pk_X4_howOften qm_L_268 0 8 rfl rfl wm_0 rfl rfl (Nat.le_of_ble_eq_true rfl) dL_law_1405 ⟨(Nat.le_of_ble_eq_true rfl), (Nat.le_of_ble_eq_true rfl)⟩ ⟨show cells + 1 + 4 ≤ room_1.cells by omega, show slots + 6 + 48 ≤ room_1.slots by omega⟩ (fun v9 w9 h9 => ?_) (fun _ h9 => h9.elim)
  obtain ⟨ra9, rfl, rfl⟩ := h9
  refine r_istore C dL_law_1408 (by decide) rfl ?_
  refine t_swap3 ?_
  refine r_goto (tgt := 2128) C dL_law_1410 (by decide) ?_
  refine r_widen (k := cells + 500) (n := slots + 10000) (show cells + 1 + 4 ≤ cells + 500 by omega) (show slots + 6 + 48 ≤ slots + 10000 by omega) ?_
  refine r_drop 5 ?_
  refine r_drop 6 ?_
  exact kk _ ⟨f', r', hf', hq', kn, ra9, _, sm, _, _, hC', hB', hM', rfl⟩
theorem S_least {p : Program} {l : Launch} {e : Env} {s : State} {m : MethodId} {args : Array Value} {below : List Frame} {meth : Method} {c : Code} {D : va_G} {cy : Nat → ClassId} {A : Nat → Prop} {Q : State → Prop} {X : (Nat → Prop) → State → Heap → Prop} {aK aV : Nat → Nat} {tO tT : Nat} {gO gT : Nat → Int32} {a : Nat → Nat → Nat} {ba : Nat → Nat} {o b L i cells slots : Nat} {xs : Nat → Int32} {w : va_W} (C : Fg p s m args meth c cL_law 7 RL D cy A) (hE : X A s s.heap) (hT : EnvT X cy aK aV tO tT gO gT) (hN : EnvN X) (hl : l.stackTraces = false) (hx : va_X b L xs s s.heap) (hbl : b < s.heap.size) (hbA : ¬ A b) (hi : i + 5 ≤ L) (hL : L ≤ 2560) (hc : cells + 500 ≤ room_1.cells) (hs : slots + 10000 ≤ room_1.slots) (hJ : JW cy a ba o w) (kk : ∀ w' : va_W, JW cy a ba o w' → vW p l e room_1 s m args below meth c D vwCl A Q 7 (cells + 500) (slots + 10000) w' [some (.ref b), some (.ref (a 0 0)), some (.ref (ba 9)), some (.ref o), some (.int (nI i)), none, none] 2128 []) : vW p l e room_1 s m args below meth c D vwCl A Q 7 cells slots w [some (.ref b), some (.ref (a 0 0)), some (.ref (ba 9)), some (.ref o), some (.int (nI i)), none, none] 1413 [] := by
  by_cases h0 : xs (i + 2) = 0
  · skip
    have hX := hT.1.1
    obtain ⟨f, r, hf, hq, kn, ra, th, sm, n, v, hC, hB, hM, rfl⟩ := hJ
    refine r_aload_n C dL_law_1413 rfl ?_
    refine r_aload_n C dL_law_1414 rfl ?_
    refine r_iload C dL_law_1415 rfl ?_
    refine r_iconst (v := nI 1) C dL_law_1417 (by decide) ?_
    refine r_iaddN C dL_law_1418 ?_
    refine r_sld C hx hbl hbA (show i + 1 < L by omega) (by omega) dL_law_1419 ?_
    refine r_aload_n C dL_law_1420 rfl ?_
    refine r_iload C dL_law_1421 rfl ?_
    refine r_iconst (v := nI 2) C dL_law_1423 (by decide) ?_
    refine r_iaddN C dL_law_1424 ?_
    refine r_sld C hx hbl hbA (show i + 2 < L by omega) (by omega) dL_law_1425 ?_
    refine r_if_eq (tgt := 1433) C dL_law_1426 (by decide) (fun _ => ?_) (fun hne => absurd h0 hne)
    refine r_iconst (v := nI 0) C dL_law_1433 (by decide) ?_
    refine r_aload_n C dL_law_1434 rfl ?_
    refine c_SH (st := []) hX.1.stb C hE (W_least hX.1 hN hC hB hM (P_least hX hl hC hB hM (xs (i + 1)) (b0 := 0) (by decide))) pk_L_least qm_L_269 rfl rfl (Nat.le_of_ble_eq_true rfl) dL_law_1435 ⟨(Nat.le_of_ble_eq_true rfl), (Nat.le_of_ble_eq_true rfl)⟩ ⟨show cells + 1 ≤ room_1.cells by omega, show slots + 6 ≤ room_1.slots by omega⟩ (fun v9 w9 h9 => ?_) (fun _ h9 => h9.elim)
    obtain ⟨f', r', k, n1, rfl, rfl, hf', hq', n2, hC', hB', hM', hk0, hk4, h2⟩ := h9
    refine r_istore C dL_law_1438 (by decide) rfl ?_
    refine r_aload_n C dL_law_1440 rfl ?_
    refine r_aload_n C dL_law_1441 rfl ?_
    refine r_iload C dL_law_1442 rfl ?_
    refine r_iconst (v := nI 1) C dL_law_1444 (by decide) ?_
    refine r_iaddN C dL_law_1445 ?_
    refine r_sld C hx hbl hbA (show i + 1 < L by omega) (by omega) dL_law_1446 ?_
    refine r_aload_n C dL_law_1447 rfl ?_
    refine r_iload C dL_law_1448 rfl ?_
    refine r_iconst (v := nI 2) C dL_law_1450 (by decide) ?_
    refine r_iaddN C dL_law_1451 ?_
    refine r_sld C hx hbl hbA (show i + 2 < L by omega) (by omega) dL_law_1452 ?_
    refine r_if_eq (tgt := 1460) C dL_law_1453 (by decide) (fun _ => ?_) (fun hne => absurd h0 hne)
    refine r_iconst (v := nI 0) C dL_law_1460 (by decide) ?_
    refine t_swap3 ?_
    refine c_V (st := []) hX.1.stb C hE (h2 _) pk_X4_least qm_L_272 0 8 rfl rfl wm_0 rfl rfl (Nat.le_of_ble_eq_true rfl) dL_law_1461 ⟨(Nat.le_of_ble_eq_true rfl), (Nat.le_of_ble_eq_true rfl)⟩ ⟨show cells + 1 + 4 ≤ room_1.cells by omega, show slots + 6 + 48 ≤ room_1.slots by omega⟩ (fun v9 w9 h9 => ?_) (fun _ h9 => h9.elim)
    obtain ⟨ra9, rfl, rfl⟩ := h9
    refine r_istore C dL_law_1464 (by decide) rfl ?_
    refine t_swap3 ?_
    refine r_goto (tgt := 2128) C dL_law_1466 (by decide) ?_
    refine r_widen (k := cells + 500) (n := slots + 10000) (show cells + 1 + 4 ≤ cells + 500 by omega) (show slots + 6 + 48 ≤ slots + 10000 by omega) ?_
    refine r_drop 5 ?_
    refine r_drop 6 ?_
    exact kk _ ⟨f', r', hf', hq', kn, ra9, _, sm, _, _, hC', hB', hM', rfl⟩
  · skip
    have hX := hT.1.1
    obtain ⟨f, r, hf, hq, kn, ra, th, sm, n, v, hC, hB, hM, rfl⟩ := hJ
    refine r_aload_n C dL_law_1413 rfl ?_
    refine r_aload_n C dL_law_1414 rfl ?_
    refine r_iload C dL_law_1415 rfl ?_
    refine r_iconst (v := nI 1) C dL_law_1417 (by decide) ?_
    refine r_iaddN C dL_law_1418 ?_
    refine r_sld C hx hbl hbA (show i + 1 < L by omega) (by omega) dL_law_1419 ?_
    refine r_aload_n C dL_law_1420 rfl ?_
    refine r_iload C dL_law_1421 rfl ?_
    refine r_iconst (v := nI 2) C dL_law_1423 (by decide) ?_
    refine r_iaddN C dL_law_1424 ?_
    refine r_sld C hx hbl hbA (show i + 2 < L by omega) (by omega) dL_law_1425 ?_
    refine r_if_eq (tgt := 1433) C dL_law_1426 (by decide) (fun he => absurd he h0) (fun _ => ?_)
    refine r_iconst (v := nI 1) C dL_law_1429 (by decide) ?_
    refine r_goto (tgt := 1434) C dL_law_1430 (by decide) ?_
    refine r_aload_n C dL_law_1434 rfl ?_
    refine c_SH (st := []) hX.1.stb C hE (W_least hX.1 hN hC hB hM (P_least hX hl hC hB hM (xs (i + 1)) (b0 := 1) (by decide))) pk_L_least qm_L_269 rfl rfl (Nat.le_of_ble_eq_true rfl) dL_law_1435 ⟨(Nat.le_of_ble_eq_true rfl), (Nat.le_of_ble_eq_true rfl)⟩ ⟨show cells + 1 ≤ room_1.cells by omega, show slots + 6 ≤ room_1.slots by omega⟩ (fun v9 w9 h9 => ?_) (fun _ h9 => h9.elim)
    obtain ⟨f', r', k, n1, rfl, rfl, hf', hq', n2, hC', hB', hM', hk0, hk4, h2⟩ := h9
    refine r_istore C dL_law_1438 (by decide) rfl ?_
    refine r_aload_n C dL_law_1440 rfl ?_
    refine r_aload_n C dL_law_1441 rfl ?_
    refine r_iload C dL_law_1442 rfl ?_
    refine r_iconst (v := nI 1) C dL_law_1444 (by decide) ?_
    refine r_iaddN C dL_law_1445 ?_
    refine r_sld C hx hbl hbA (show i + 1 < L by omega) (by omega) dL_law_1446 ?_
    refine r_aload_n C dL_law_1447 rfl ?_
    refine r_iload C dL_law_1448 rfl ?_
    refine r_iconst (v := nI 2) C dL_law_1450 (by decide) ?_
    refine r_iaddN C dL_law_1451 ?_
    refine r_sld C hx hbl hbA (show i + 2 < L by omega) (by omega) dL_law_1452 ?_
    refine r_if_eq (tgt := 1460) C dL_law_1453 (by decide) (fun he => absurd he h0) (fun _ => ?_)
    refine r_iconst (v := nI 1) C dL_law_1456 (by decide) ?_
    refine r_goto (tgt := 1461) C dL_law_1457 (by decide) ?_
    refine t_swap3 ?_
    refine c_V (st := []) hX.1.stb C hE (h2 _) pk_X4_least qm_L_272 0 8 rfl rfl wm_0 rfl rfl (Nat.le_of_ble_eq_true rfl) dL_law_1461 ⟨(Nat.le_of_ble_eq_true rfl), (Nat.le_of_ble_eq_true rfl)⟩ ⟨show cells + 1 + 4 ≤ room_1.cells by omega, show slots + 6 + 48 ≤ room_1.slots by omega⟩ (fun v9 w9 h9 => ?_) (fun _ h9 => h9.elim)
    obtain ⟨ra9, rfl, rfl⟩ := h9
    refine r_istore C dL_law_1464 (by decide) rfl ?_
    refine t_swap3 ?_
    refine r_goto (tgt := 2128) C dL_law_1466 (by decide) ?_
    refine r_widen (k := cells + 500) (n := slots + 10000) (show cells + 1 + 4 ≤ cells + 500 by omega) (show slots + 6 + 48 ≤ slots + 10000 by omega) ?_
    refine r_drop 5 ?_
    refine r_drop 6 ?_
    exact kk _ ⟨f', r', hf', hq', kn, ra9, _, sm, _, _, hC', hB', hM', rfl⟩
theorem S_areApart {p : Program} {l : Launch} {e : Env} {s : State} {m : MethodId} {args : Array Value} {below : List Frame} {meth : Method} {c : Code} {D : va_G} {cy : Nat → ClassId} {A : Nat → Prop} {Q : State → Prop} {X : (Nat → Prop) → State → Heap → Prop} {aK aV : Nat → Nat} {tO tT : Nat} {gO gT : Nat → Int32} {a : Nat → Nat → Nat} {ba : Nat → Nat} {o b L i cells slots : Nat} {xs : Nat → Int32} {w : va_W} (C : Fg p s m args meth c cL_law 7 RL D cy A) (hE : X A s s.heap) (hT : EnvT X cy aK aV tO tT gO gT) (hN : EnvN X) (hl : l.stackTraces = false) (hx : va_X b L xs s s.heap) (hbl : b < s.heap.size) (hbA : ¬ A b) (hi : i + 5 ≤ L) (hL : L ≤ 2560) (hc : cells + 500 ≤ room_1.cells) (hs : slots + 10000 ≤ room_1.slots) (hJ : JW cy a ba o w) (kk : ∀ w' : va_W, JW cy a ba o w' → vW p l e room_1 s m args below meth c D vwCl A Q 7 (cells + 500) (slots + 10000) w' [some (.ref b), some (.ref (a 0 0)), some (.ref (ba 9)), some (.ref o), some (.int (nI i)), none, none] 2128 []) : vW p l e room_1 s m args below meth c D vwCl A Q 7 cells slots w [some (.ref b), some (.ref (a 0 0)), some (.ref (ba 9)), some (.ref o), some (.int (nI i)), none, none] 1469 [] := by
  have hX := hT.1.1
  obtain ⟨f, r, hf, hq, kn, ra, th, sm, n, v, hC, hB, hM, rfl⟩ := hJ
  refine r_aload_n C dL_law_1469 rfl ?_
  refine r_aload_n C dL_law_1470 rfl ?_
  refine r_iload C dL_law_1471 rfl ?_
  refine r_iconst (v := nI 1) C dL_law_1473 (by decide) ?_
  refine r_iaddN C dL_law_1474 ?_
  refine r_sld C hx hbl hbA (show i + 1 < L by omega) (by omega) dL_law_1475 ?_
  refine r_aload_n C dL_law_1476 rfl ?_
  refine r_iload C dL_law_1477 rfl ?_
  refine r_iconst (v := nI 2) C dL_law_1479 (by decide) ?_
  refine r_iaddN C dL_law_1480 ?_
  refine r_sld C hx hbl hbA (show i + 2 < L by omega) (by omega) dL_law_1481 ?_
  refine r_aload_n C dL_law_1482 rfl ?_
  refine c_SH (st := []) hX.1.stb C hE (W_areApart hX.1 hN hC hB hM (P_areApart hX hl hC hB hM (xs (i + 1)) (xs (i + 2)))) pk_L_areApart qm_L_273 rfl rfl (Nat.le_of_ble_eq_true rfl) dL_law_1483 ⟨(Nat.le_of_ble_eq_true rfl), (Nat.le_of_ble_eq_true rfl)⟩ ⟨show cells + 1 ≤ room_1.cells by omega, show slots + 6 ≤ room_1.slots by omega⟩ (fun v9 w9 h9 => ?_) (fun _ h9 => h9.elim)
  obtain ⟨f', r', k, n1, rfl, rfl, hf', hq', n2, hC', hB', hM', hk0, hk4, h2⟩ := h9
  refine r_istore C dL_law_1486 (by decide) rfl ?_
  refine r_aload_n C dL_law_1488 rfl ?_
  refine r_aload_n C dL_law_1489 rfl ?_
  refine r_iload C dL_law_1490 rfl ?_
  refine r_iconst (v := nI 1) C dL_law_1492 (by decide) ?_
  refine r_iaddN C dL_law_1493 ?_
  refine r_sld C hx hbl hbA (show i + 1 < L by omega) (by omega) dL_law_1494 ?_
  refine r_aload_n C dL_law_1495 rfl ?_
  refine r_iload C dL_law_1496 rfl ?_
  refine r_iconst (v := nI 2) C dL_law_1498 (by decide) ?_
  refine r_iaddN C dL_law_1499 ?_
  refine r_sld C hx hbl hbA (show i + 2 < L by omega) (by omega) dL_law_1500 ?_
  refine t_swap3 ?_
  refine c_V (st := []) hX.1.stb C hE (h2 _) pk_X4_areApart qm_L_275 0 8 rfl rfl wm_0 rfl rfl (Nat.le_of_ble_eq_true rfl) dL_law_1501 ⟨(Nat.le_of_ble_eq_true rfl), (Nat.le_of_ble_eq_true rfl)⟩ ⟨show cells + 1 + 4 ≤ room_1.cells by omega, show slots + 6 + 48 ≤ room_1.slots by omega⟩ (fun v9 w9 h9 => ?_) (fun _ h9 => h9.elim)
  obtain ⟨ra9, rfl, rfl⟩ := h9
  refine r_istore C dL_law_1504 (by decide) rfl ?_
  refine t_swap3 ?_
  refine r_goto (tgt := 2128) C dL_law_1506 (by decide) ?_
  refine r_widen (k := cells + 500) (n := slots + 10000) (show cells + 1 + 4 ≤ cells + 500 by omega) (show slots + 6 + 48 ≤ slots + 10000 by omega) ?_
  refine r_drop 5 ?_
  refine r_drop 6 ?_
  exact kk _ ⟨f', r', hf', hq', kn, ra9, _, sm, _, _, hC', hB', hM', rfl⟩
theorem S_areSame {p : Program} {l : Launch} {e : Env} {s : State} {m : MethodId} {args : Array Value} {below : List Frame} {meth : Method} {c : Code} {D : va_G} {cy : Nat → ClassId} {A : Nat → Prop} {Q : State → Prop} {X : (Nat → Prop) → State → Heap → Prop} {aK aV : Nat → Nat} {tO tT : Nat} {gO gT : Nat → Int32} {a : Nat → Nat → Nat} {ba : Nat → Nat} {o b L i cells slots : Nat} {xs : Nat → Int32} {w : va_W} (C : Fg p s m args meth c cL_law 7 RL D cy A) (hE : X A s s.heap) (hT : EnvT X cy aK aV tO tT gO gT) (hN : EnvN X) (hl : l.stackTraces = false) (hx : va_X b L xs s s.heap) (hbl : b < s.heap.size) (hbA : ¬ A b) (hi : i + 5 ≤ L) (hL : L ≤ 2560) (hc : cells + 500 ≤ room_1.cells) (hs : slots + 10000 ≤ room_1.slots) (hJ : JW cy a ba o w) (kk : ∀ w' : va_W, JW cy a ba o w' → vW p l e room_1 s m args below meth c D vwCl A Q 7 (cells + 500) (slots + 10000) w' [some (.ref b), some (.ref (a 0 0)), some (.ref (ba 9)), some (.ref o), some (.int (nI i)), none, none] 2128 []) : vW p l e room_1 s m args below meth c D vwCl A Q 7 cells slots w [some (.ref b), some (.ref (a 0 0)), some (.ref (ba 9)), some (.ref o), some (.int (nI i)), none, none] 1509 [] := by
  have hX := hT.1.1
  obtain ⟨f, r, hf, hq, kn, ra, th, sm, n, v, hC, hB, hM, rfl⟩ := hJ
  refine r_aload_n C dL_law_1509 rfl ?_
  refine r_aload_n C dL_law_1510 rfl ?_
  refine r_iload C dL_law_1511 rfl ?_
  refine r_iconst (v := nI 1) C dL_law_1513 (by decide) ?_
  refine r_iaddN C dL_law_1514 ?_
  refine r_sld C hx hbl hbA (show i + 1 < L by omega) (by omega) dL_law_1515 ?_
  refine r_aload_n C dL_law_1516 rfl ?_
  refine r_iload C dL_law_1517 rfl ?_
  refine r_iconst (v := nI 2) C dL_law_1519 (by decide) ?_
  refine r_iaddN C dL_law_1520 ?_
  refine r_sld C hx hbl hbA (show i + 2 < L by omega) (by omega) dL_law_1521 ?_
  refine r_aload_n C dL_law_1522 rfl ?_
  refine c_SH (st := []) hX.1.stb C hE (W_areSame hX.1 hN hC hB hM (P_areSame hX hl hC hB hM (xs (i + 1)) (xs (i + 2)))) pk_L_areSame qm_L_276 rfl rfl (Nat.le_of_ble_eq_true rfl) dL_law_1523 ⟨(Nat.le_of_ble_eq_true rfl), (Nat.le_of_ble_eq_true rfl)⟩ ⟨show cells + 1 ≤ room_1.cells by omega, show slots + 6 ≤ room_1.slots by omega⟩ (fun v9 w9 h9 => ?_) (fun _ h9 => h9.elim)
  obtain ⟨f', r', k, n1, rfl, rfl, hf', hq', n2, hC', hB', hM', hk0, hk4, h2⟩ := h9
  refine r_istore C dL_law_1526 (by decide) rfl ?_
  refine r_aload_n C dL_law_1528 rfl ?_
  refine r_aload_n C dL_law_1529 rfl ?_
  refine r_iload C dL_law_1530 rfl ?_
  refine r_iconst (v := nI 1) C dL_law_1532 (by decide) ?_
  refine r_iaddN C dL_law_1533 ?_
  refine r_sld C hx hbl hbA (show i + 1 < L by omega) (by omega) dL_law_1534 ?_
  refine r_aload_n C dL_law_1535 rfl ?_
  refine r_iload C dL_law_1536 rfl ?_
  refine r_iconst (v := nI 2) C dL_law_1538 (by decide) ?_
  refine r_iaddN C dL_law_1539 ?_
  refine r_sld C hx hbl hbA (show i + 2 < L by omega) (by omega) dL_law_1540 ?_
  refine t_swap3 ?_
  refine c_V (st := []) hX.1.stb C hE (h2 _) pk_X4_areSame qm_L_278 0 8 rfl rfl wm_0 rfl rfl (Nat.le_of_ble_eq_true rfl) dL_law_1541 ⟨(Nat.le_of_ble_eq_true rfl), (Nat.le_of_ble_eq_true rfl)⟩ ⟨show cells + 1 + 4 ≤ room_1.cells by omega, show slots + 6 + 48 ≤ room_1.slots by omega⟩ (fun v9 w9 h9 => ?_) (fun _ h9 => h9.elim)
  obtain ⟨ra9, rfl, rfl⟩ := h9
  refine r_istore C dL_law_1544 (by decide) rfl ?_
  refine t_swap3 ?_
  refine r_goto (tgt := 2128) C dL_law_1546 (by decide) ?_
  refine r_widen (k := cells + 500) (n := slots + 10000) (show cells + 1 + 4 ≤ cells + 500 by omega) (show slots + 6 + 48 ≤ slots + 10000 by omega) ?_
  refine r_drop 5 ?_
  refine r_drop 6 ?_
  exact kk _ ⟨f', r', hf', hq', kn, ra9, _, sm, _, _, hC', hB', hM', rfl⟩
theorem S_hash {p : Program} {l : Launch} {e : Env} {s : State} {m : MethodId} {args : Array Value} {below : List Frame} {meth : Method} {c : Code} {D : va_G} {cy : Nat → ClassId} {A : Nat → Prop} {Q : State → Prop} {X : (Nat → Prop) → State → Heap → Prop} {aK aV : Nat → Nat} {tO tT : Nat} {gO gT : Nat → Int32} {a : Nat → Nat → Nat} {ba : Nat → Nat} {o b L i cells slots : Nat} {xs : Nat → Int32} {w : va_W} (C : Fg p s m args meth c cL_law 7 RL D cy A) (hE : X A s s.heap) (hT : EnvT X cy aK aV tO tT gO gT) (hN : EnvN X) (hl : l.stackTraces = false) (hx : va_X b L xs s s.heap) (hbl : b < s.heap.size) (hbA : ¬ A b) (hi : i + 5 ≤ L) (hL : L ≤ 2560) (hc : cells + 500 ≤ room_1.cells) (hs : slots + 10000 ≤ room_1.slots) (hJ : JW cy a ba o w) (kk : ∀ w' : va_W, JW cy a ba o w' → vW p l e room_1 s m args below meth c D vwCl A Q 7 (cells + 500) (slots + 10000) w' [some (.ref b), some (.ref (a 0 0)), some (.ref (ba 9)), some (.ref o), some (.int (nI i)), none, none] 2128 []) : vW p l e room_1 s m args below meth c D vwCl A Q 7 cells slots w [some (.ref b), some (.ref (a 0 0)), some (.ref (ba 9)), some (.ref o), some (.int (nI i)), none, none] 1549 [] := by
  have hX := hT.1.1
  obtain ⟨f, r, hf, hq, kn, ra, th, sm, n, v, hC, hB, hM, rfl⟩ := hJ
  refine r_aload_n C dL_law_1549 rfl ?_
  refine r_aload_n C dL_law_1550 rfl ?_
  refine r_iload C dL_law_1551 rfl ?_
  refine r_iconst (v := nI 1) C dL_law_1553 (by decide) ?_
  refine r_iaddN C dL_law_1554 ?_
  refine r_sld C hx hbl hbA (show i + 1 < L by omega) (by omega) dL_law_1555 ?_
  refine r_aload_n C dL_law_1556 rfl ?_
  refine c_SH (st := []) hX.1.stb C hE (W_hash hX.1 hN hC hB hM (P_hash hX hl hC hB hM (xs (i + 1)))) pk_L_hash qm_L_279 rfl rfl (Nat.le_of_ble_eq_true rfl) dL_law_1557 ⟨(Nat.le_of_ble_eq_true rfl), (Nat.le_of_ble_eq_true rfl)⟩ ⟨show cells + 1 ≤ room_1.cells by omega, show slots + 6 ≤ room_1.slots by omega⟩ (fun v9 w9 h9 => ?_) (fun _ h9 => h9.elim)
  obtain ⟨f', r', k, n1, rfl, rfl, hf', hq', n2, hC', hB', hM', hk0, hk4, h2⟩ := h9
  refine r_istore C dL_law_1560 (by decide) rfl ?_
  refine r_aload_n C dL_law_1562 rfl ?_
  refine r_aload_n C dL_law_1563 rfl ?_
  refine r_iload C dL_law_1564 rfl ?_
  refine r_iconst (v := nI 1) C dL_law_1566 (by decide) ?_
  refine r_iaddN C dL_law_1567 ?_
  refine r_sld C hx hbl hbA (show i + 1 < L by omega) (by omega) dL_law_1568 ?_
  refine t_swap3 ?_
  refine c_V (st := []) hX.1.stb C hE (h2 _) pk_X4_hash qm_L_281 0 8 rfl rfl wm_0 rfl rfl (Nat.le_of_ble_eq_true rfl) dL_law_1569 ⟨(Nat.le_of_ble_eq_true rfl), (Nat.le_of_ble_eq_true rfl)⟩ ⟨show cells + 1 + 4 ≤ room_1.cells by omega, show slots + 6 + 48 ≤ room_1.slots by omega⟩ (fun v9 w9 h9 => ?_) (fun _ h9 => h9.elim)
  obtain ⟨ra9, rfl, rfl⟩ := h9
  refine r_istore C dL_law_1572 (by decide) rfl ?_
  refine t_swap3 ?_
  refine r_goto (tgt := 2128) C dL_law_1574 (by decide) ?_
  refine r_widen (k := cells + 500) (n := slots + 10000) (show cells + 1 + 4 ≤ cells + 500 by omega) (show slots + 6 + 48 ≤ slots + 10000 by omega) ?_
  refine r_drop 5 ?_
  refine r_drop 6 ?_
  exact kk _ ⟨f', r', hf', hq', kn, ra9, _, sm, _, _, hC', hB', hM', rfl⟩
theorem S_text {p : Program} {l : Launch} {e : Env} {s : State} {m : MethodId} {args : Array Value} {below : List Frame} {meth : Method} {c : Code} {D : va_G} {cy : Nat → ClassId} {A : Nat → Prop} {Q : State → Prop} {X : (Nat → Prop) → State → Heap → Prop} {aK aV : Nat → Nat} {tO tT : Nat} {gO gT : Nat → Int32} {a : Nat → Nat → Nat} {ba : Nat → Nat} {o b L i cells slots : Nat} {xs : Nat → Int32} {w : va_W} (C : Fg p s m args meth c cL_law 7 RL D cy A) (hE : X A s s.heap) (hT : EnvT X cy aK aV tO tT gO gT) (hN : EnvN X) (hl : l.stackTraces = false) (hx : va_X b L xs s s.heap) (hbl : b < s.heap.size) (hbA : ¬ A b) (hi : i + 5 ≤ L) (hL : L ≤ 2560) (hc : cells + 500 ≤ room_1.cells) (hs : slots + 10000 ≤ room_1.slots) (hJ : JW cy a ba o w) (kk : ∀ w' : va_W, JW cy a ba o w' → vW p l e room_1 s m args below meth c D vwCl A Q 7 (cells + 500) (slots + 10000) w' [some (.ref b), some (.ref (a 0 0)), some (.ref (ba 9)), some (.ref o), some (.int (nI i)), none, none] 2128 []) : vW p l e room_1 s m args below meth c D vwCl A Q 7 cells slots w [some (.ref b), some (.ref (a 0 0)), some (.ref (ba 9)), some (.ref o), some (.int (nI i)), none, none] 1577 [] := by
  have hX := hT.1.1
  obtain ⟨f, r, hf, hq, kn, ra, th, sm, n, v, hC, hB, hM, rfl⟩ := hJ
  refine r_aload_n C dL_law_1577 rfl ?_
  refine r_aload_n C dL_law_1578 rfl ?_
  refine r_iload C dL_law_1579 rfl ?_
  refine r_iconst (v := nI 1) C dL_law_1581 (by decide) ?_
  refine r_iaddN C dL_law_1582 ?_
  refine r_sld C hx hbl hbA (show i + 1 < L by omega) (by omega) dL_law_1583 ?_
  refine r_aload_n C dL_law_1584 rfl ?_
  refine c_SH (st := []) hX.1.stb C hE (W_text hT.1 hl hC hB hM) pk_L_text qm_L_282 rfl rfl (Nat.le_of_ble_eq_true rfl) dL_law_1585 ⟨(Nat.le_of_ble_eq_true rfl), (Nat.le_of_ble_eq_true rfl)⟩ ⟨show cells + 6 ≤ room_1.cells by omega, show slots + 204 ≤ room_1.slots by omega⟩ (fun v9 w9 h9 => ?_) (fun _ h9 => h9.elim)
  obtain ⟨k, s1, rfl, rfl⟩ := h9
  refine r_istore C dL_law_1588 (by decide) rfl ?_
  refine r_aload_n C dL_law_1590 rfl ?_
  refine r_aload_n C dL_law_1591 rfl ?_
  refine r_iload C dL_law_1592 rfl ?_
  refine r_iconst (v := nI 1) C dL_law_1594 (by decide) ?_
  refine r_iaddN C dL_law_1595 ?_
  refine r_sld C hx hbl hbA (show i + 1 < L by omega) (by omega) dL_law_1596 ?_
  refine t_swap3 ?_
  refine c_V (st := []) hX.1.stb C hE (D_text_all hT.1 hC hB hM (xs (i + 1))) pk_X4_text qm_L_284 0 8 rfl rfl wm_0 rfl rfl (Nat.le_of_ble_eq_true rfl) dL_law_1597 ⟨(Nat.le_of_ble_eq_true rfl), (Nat.le_of_ble_eq_true rfl)⟩ ⟨show cells + 6 + 100 ≤ room_1.cells by omega, show slots + 204 + 2200 ≤ room_1.slots by omega⟩ (fun v9 w9 h9 => ?_) (fun _ h9 => h9.elim)
  obtain ⟨a9, k2, rfl, rfl⟩ := h9
  refine r_astore C dL_law_1600 (by decide) rfl ?_
  refine t_swap3 ?_
  refine r_goto (tgt := 2128) C dL_law_1602 (by decide) ?_
  refine r_widen (k := cells + 500) (n := slots + 10000) (show cells + 6 + 100 ≤ cells + 500 by omega) (show slots + 204 + 2200 ≤ slots + 10000 by omega) ?_
  refine r_drop 5 ?_
  refine r_drop 6 ?_
  exact kk _ ⟨f, r, hf, hq, kn, ra, _, sm, _, _, hC, hB, hM, rfl⟩
theorem S_inArray {p : Program} {l : Launch} {e : Env} {s : State} {m : MethodId} {args : Array Value} {below : List Frame} {meth : Method} {c : Code} {D : va_G} {cy : Nat → ClassId} {A : Nat → Prop} {Q : State → Prop} {X : (Nat → Prop) → State → Heap → Prop} {aK aV : Nat → Nat} {tO tT : Nat} {gO gT : Nat → Int32} {a : Nat → Nat → Nat} {ba : Nat → Nat} {o b L i cells slots : Nat} {xs : Nat → Int32} {w : va_W} (C : Fg p s m args meth c cL_law 7 RL D cy A) (hE : X A s s.heap) (hT : EnvT X cy aK aV tO tT gO gT) (hN : EnvN X) (hl : l.stackTraces = false) (hx : va_X b L xs s s.heap) (hbl : b < s.heap.size) (hbA : ¬ A b) (hi : i + 5 ≤ L) (hL : L ≤ 2560) (hc : cells + 500 ≤ room_1.cells) (hs : slots + 10000 ≤ room_1.slots) (hJ : JW cy a ba o w) (kk : ∀ w' : va_W, JW cy a ba o w' → vW p l e room_1 s m args below meth c D vwCl A Q 7 (cells + 500) (slots + 10000) w' [some (.ref b), some (.ref (a 0 0)), some (.ref (ba 9)), some (.ref o), some (.int (nI i)), none, none] 2128 []) : vW p l e room_1 s m args below meth c D vwCl A Q 7 cells slots w [some (.ref b), some (.ref (a 0 0)), some (.ref (ba 9)), some (.ref o), some (.int (nI i)), none, none] 1605 [] := by
  have hX := hT.1.1
  obtain ⟨f, r, hf, hq, kn, ra, th, sm, n, v, hC, hB, hM, rfl⟩ := hJ
  refine r_aload_n C dL_law_1605 rfl ?_
  refine r_aload_n C dL_law_1606 rfl ?_
  refine r_iload C dL_law_1607 rfl ?_
  refine r_iconst (v := nI 1) C dL_law_1609 (by decide) ?_
  refine r_iaddN C dL_law_1610 ?_
  refine r_sld C hx hbl hbA (show i + 1 < L by omega) (by omega) dL_law_1611 ?_
  refine r_aload_n C dL_law_1612 rfl ?_
  refine r_iload C dL_law_1613 rfl ?_
  refine r_iconst (v := nI 2) C dL_law_1615 (by decide) ?_
  refine r_iaddN C dL_law_1616 ?_
  refine r_sld C hx hbl hbA (show i + 2 < L by omega) (by omega) dL_law_1617 ?_
  refine r_aload_n C dL_law_1618 rfl ?_
  refine c_SH (st := []) hX.1.stb C hE (W_inArray hX.1 hN hC hB hM (P_inArray hX hl hC hB hM (xs (i + 1)) (xs (i + 2)))) pk_L_inArray qm_L_285 rfl rfl (Nat.le_of_ble_eq_true rfl) dL_law_1619 ⟨(Nat.le_of_ble_eq_true rfl), (Nat.le_of_ble_eq_true rfl)⟩ ⟨show cells + 1 ≤ room_1.cells by omega, show slots + 6 ≤ room_1.slots by omega⟩ (fun v9 w9 h9 => ?_) (fun _ h9 => h9.elim)
  obtain ⟨f', r', k, n1, rfl, rfl, hf', hq', n2, hC', hB', hM', hk0, hk4, h2⟩ := h9
  refine r_istore C dL_law_1622 (by decide) rfl ?_
  refine r_aload_n C dL_law_1624 rfl ?_
  refine r_aload_n C dL_law_1625 rfl ?_
  refine r_iload C dL_law_1626 rfl ?_
  refine r_iconst (v := nI 1) C dL_law_1628 (by decide) ?_
  refine r_iaddN C dL_law_1629 ?_
  refine r_sld C hx hbl hbA (show i + 1 < L by omega) (by omega) dL_law_1630 ?_
  refine r_aload_n C dL_law_1631 rfl ?_
  refine r_iload C dL_law_1632 rfl ?_
  refine r_iconst (v := nI 2) C dL_law_1634 (by decide) ?_
  refine r_iaddN C dL_law_1635 ?_
  refine r_sld C hx hbl hbA (show i + 2 < L by omega) (by omega) dL_law_1636 ?_
  refine t_swap3 ?_
  refine c_V (st := []) hX.1.stb C hE (h2 _) pk_X4_inArray qm_L_287 0 8 rfl rfl wm_0 rfl rfl (Nat.le_of_ble_eq_true rfl) dL_law_1637 ⟨(Nat.le_of_ble_eq_true rfl), (Nat.le_of_ble_eq_true rfl)⟩ ⟨show cells + 1 + 4 ≤ room_1.cells by omega, show slots + 6 + 48 ≤ room_1.slots by omega⟩ (fun v9 w9 h9 => ?_) (fun _ h9 => h9.elim)
  obtain ⟨ra9, rfl, rfl⟩ := h9
  refine r_istore C dL_law_1640 (by decide) rfl ?_
  refine t_swap3 ?_
  refine r_goto (tgt := 2128) C dL_law_1642 (by decide) ?_
  refine r_widen (k := cells + 500) (n := slots + 10000) (show cells + 1 + 4 ≤ cells + 500 by omega) (show slots + 6 + 48 ≤ slots + 10000 by omega) ?_
  refine r_drop 5 ?_
  refine r_drop 6 ?_
  exact kk _ ⟨f', r', hf', hq', kn, ra9, _, sm, _, _, hC', hB', hM', rfl⟩
theorem S_window {p : Program} {l : Launch} {e : Env} {s : State} {m : MethodId} {args : Array Value} {below : List Frame} {meth : Method} {c : Code} {D : va_G} {cy : Nat → ClassId} {A : Nat → Prop} {Q : State → Prop} {X : (Nat → Prop) → State → Heap → Prop} {aK aV : Nat → Nat} {tO tT : Nat} {gO gT : Nat → Int32} {a : Nat → Nat → Nat} {ba : Nat → Nat} {o b L i cells slots : Nat} {xs : Nat → Int32} {w : va_W} (C : Fg p s m args meth c cL_law 7 RL D cy A) (hE : X A s s.heap) (hT : EnvT X cy aK aV tO tT gO gT) (hN : EnvN X) (hl : l.stackTraces = false) (hx : va_X b L xs s s.heap) (hbl : b < s.heap.size) (hbA : ¬ A b) (hi : i + 5 ≤ L) (hL : L ≤ 2560) (hc : cells + 500 ≤ room_1.cells) (hs : slots + 10000 ≤ room_1.slots) (hJ : JW cy a ba o w) (kk : ∀ w' : va_W, JW cy a ba o w' → vW p l e room_1 s m args below meth c D vwCl A Q 7 (cells + 500) (slots + 10000) w' [some (.ref b), some (.ref (a 0 0)), some (.ref (ba 9)), some (.ref o), some (.int (nI i)), none, none] 2128 []) : vW p l e room_1 s m args below meth c D vwCl A Q 7 cells slots w [some (.ref b), some (.ref (a 0 0)), some (.ref (ba 9)), some (.ref o), some (.int (nI i)), none, none] 1645 [] := by
  have hX := hT.1.1
  obtain ⟨f, r, hf, hq, kn, ra, th, sm, n, v, hC, hB, hM, rfl⟩ := hJ
  refine r_aload_n C dL_law_1645 rfl ?_
  refine r_aload_n C dL_law_1646 rfl ?_
  refine r_iload C dL_law_1647 rfl ?_
  refine r_iconst (v := nI 1) C dL_law_1649 (by decide) ?_
  refine r_iaddN C dL_law_1650 ?_
  refine r_sld C hx hbl hbA (show i + 1 < L by omega) (by omega) dL_law_1651 ?_
  refine r_aload_n C dL_law_1652 rfl ?_
  refine r_iload C dL_law_1653 rfl ?_
  refine r_iconst (v := nI 2) C dL_law_1655 (by decide) ?_
  refine r_iaddN C dL_law_1656 ?_
  refine r_sld C hx hbl hbA (show i + 2 < L by omega) (by omega) dL_law_1657 ?_
  refine r_aload_n C dL_law_1658 rfl ?_
  refine r_iload C dL_law_1659 rfl ?_
  refine r_iconst (v := nI 3) C dL_law_1661 (by decide) ?_
  refine r_iaddN C dL_law_1662 ?_
  refine r_sld C hx hbl hbA (show i + 3 < L by omega) (by omega) dL_law_1663 ?_
  refine r_aload_n C dL_law_1664 rfl ?_
  refine r_iload C dL_law_1665 rfl ?_
  refine r_iconst (v := nI 4) C dL_law_1667 (by decide) ?_
  refine r_iaddN C dL_law_1668 ?_
  refine r_sld C hx hbl hbA (show i + 4 < L by omega) (by omega) dL_law_1669 ?_
  refine r_aload_n C dL_law_1670 rfl ?_
  refine c_SH (st := []) hX.1.stb C hE (W_window hX.1 hN hC hB hM (P_window hX hl hC hB hM (xs (i + 1)) (xs (i + 2)) (xs (i + 3)) (xs (i + 4)))) pk_L_window qm_L_288 rfl rfl (Nat.le_of_ble_eq_true rfl) dL_law_1671 ⟨(Nat.le_of_ble_eq_true rfl), (Nat.le_of_ble_eq_true rfl)⟩ ⟨show cells + 1 ≤ room_1.cells by omega, show slots + 6 ≤ room_1.slots by omega⟩ (fun v9 w9 h9 => ?_) (fun _ h9 => h9.elim)
  obtain ⟨f', r', k, n1, rfl, rfl, hf', hq', n2, hC', hB', hM', hk0, hk4, h2⟩ := h9
  refine r_istore C dL_law_1674 (by decide) rfl ?_
  refine r_aload_n C dL_law_1676 rfl ?_
  refine r_aload_n C dL_law_1677 rfl ?_
  refine r_iload C dL_law_1678 rfl ?_
  refine r_iconst (v := nI 1) C dL_law_1680 (by decide) ?_
  refine r_iaddN C dL_law_1681 ?_
  refine r_sld C hx hbl hbA (show i + 1 < L by omega) (by omega) dL_law_1682 ?_
  refine r_aload_n C dL_law_1683 rfl ?_
  refine r_iload C dL_law_1684 rfl ?_
  refine r_iconst (v := nI 2) C dL_law_1686 (by decide) ?_
  refine r_iaddN C dL_law_1687 ?_
  refine r_sld C hx hbl hbA (show i + 2 < L by omega) (by omega) dL_law_1688 ?_
  refine r_aload_n C dL_law_1689 rfl ?_
  refine r_iload C dL_law_1690 rfl ?_
  refine r_iconst (v := nI 3) C dL_law_1692 (by decide) ?_
  refine r_iaddN C dL_law_1693 ?_
  refine r_sld C hx hbl hbA (show i + 3 < L by omega) (by omega) dL_law_1694 ?_
  refine r_aload_n C dL_law_1695 rfl ?_
  refine r_iload C dL_law_1696 rfl ?_
  refine r_iconst (v := nI 4) C dL_law_1698 (by decide) ?_
  refine r_iaddN C dL_law_1699 ?_
  refine r_sld C hx hbl hbA (show i + 4 < L by omega) (by omega) dL_law_1700 ?_
  refine t_swap3 ?_
  refine c_V (st := []) hX.1.stb C hE (h2 _) pk_X4_window qm_L_290 0 8 rfl rfl wm_0 rfl rfl (Nat.le_of_ble_eq_true rfl) dL_law_1701 ⟨(Nat.le_of_ble_eq_true rfl), (Nat.le_of_ble_eq_true rfl)⟩ ⟨show cells + 1 + 4 ≤ room_1.cells by omega, show slots + 6 + 48 ≤ room_1.slots by omega⟩ (fun v9 w9 h9 => ?_) (fun _ h9 => h9.elim)
  obtain ⟨ra9, rfl, rfl⟩ := h9
  refine r_istore C dL_law_1704 (by decide) rfl ?_
  refine t_swap3 ?_
  refine r_goto (tgt := 2128) C dL_law_1706 (by decide) ?_
  refine r_widen (k := cells + 500) (n := slots + 10000) (show cells + 1 + 4 ≤ cells + 500 by omega) (show slots + 6 + 48 ≤ slots + 10000 by omega) ?_
  refine r_drop 5 ?_
  refine r_drop 6 ?_
  exact kk _ ⟨f', r', hf', hq', kn, ra9, _, sm, _, _, hC', hB', hM', rfl⟩
theorem S_close {p : Program} {l : Launch} {e : Env} {s : State} {m : MethodId} {args : Array Value} {below : List Frame} {meth : Method} {c : Code} {D : va_G} {cy : Nat → ClassId} {A : Nat → Prop} {Q : State → Prop} {X : (Nat → Prop) → State → Heap → Prop} {aK aV : Nat → Nat} {tO tT : Nat} {gO gT : Nat → Int32} {a : Nat → Nat → Nat} {ba : Nat → Nat} {o b L i cells slots : Nat} {xs : Nat → Int32} {w : va_W} (C : Fg p s m args meth c cL_law 7 RL D cy A) (hE : X A s s.heap) (hT : EnvT X cy aK aV tO tT gO gT) (hN : EnvN X) (hl : l.stackTraces = false) (hx : va_X b L xs s s.heap) (hbl : b < s.heap.size) (hbA : ¬ A b) (hi : i + 5 ≤ L) (hL : L ≤ 2560) (hc : cells + 500 ≤ room_1.cells) (hs : slots + 10000 ≤ room_1.slots) (hJ : JW cy a ba o w) (kk : ∀ w' : va_W, JW cy a ba o w' → vW p l e room_1 s m args below meth c D vwCl A Q 7 (cells + 500) (slots + 10000) w' [some (.ref b), some (.ref (a 0 0)), some (.ref (ba 9)), some (.ref o), some (.int (nI i)), none, none] 2128 []) : vW p l e room_1 s m args below meth c D vwCl A Q 7 cells slots w [some (.ref b), some (.ref (a 0 0)), some (.ref (ba 9)), some (.ref o), some (.int (nI i)), none, none] 1709 [] := by
  have hX := hT.1.1
  obtain ⟨f, r, hf, hq, kn, ra, th, sm, n, v, hC, hB, hM, rfl⟩ := hJ
  refine r_aload_n C dL_law_1709 rfl ?_
  refine r_aload_n C dL_law_1710 rfl ?_
  refine r_iload C dL_law_1711 rfl ?_
  refine r_iconst (v := nI 1) C dL_law_1713 (by decide) ?_
  refine r_iaddN C dL_law_1714 ?_
  refine r_sld C hx hbl hbA (show i + 1 < L by omega) (by omega) dL_law_1715 ?_
  refine r_aload_n C dL_law_1716 rfl ?_
  refine c_SH (st := []) hX.1.stb C hE (W_close hX.1 hN hC hB hM (P_close hX hl hC hB hM (xs (i + 1)))) pk_L_close qm_L_291 rfl rfl (Nat.le_of_ble_eq_true rfl) dL_law_1717 ⟨(Nat.le_of_ble_eq_true rfl), (Nat.le_of_ble_eq_true rfl)⟩ ⟨show cells + 1 ≤ room_1.cells by omega, show slots + 6 ≤ room_1.slots by omega⟩ (fun v9 w9 h9 => ?_) (fun _ h9 => h9.elim)
  obtain ⟨f', r', k, n1, rfl, rfl, hf', hq', n2, hC', hB', hM', hk0, hk4, h2⟩ := h9
  refine r_istore C dL_law_1720 (by decide) rfl ?_
  refine r_aload_n C dL_law_1722 rfl ?_
  refine r_aload_n C dL_law_1723 rfl ?_
  refine r_iload C dL_law_1724 rfl ?_
  refine r_iconst (v := nI 1) C dL_law_1726 (by decide) ?_
  refine r_iaddN C dL_law_1727 ?_
  refine r_sld C hx hbl hbA (show i + 1 < L by omega) (by omega) dL_law_1728 ?_
  refine t_swap3 ?_
  refine c_V (st := []) hX.1.stb C hE (h2 _) pk_X4_close qm_L_293 0 8 rfl rfl wm_0 rfl rfl (Nat.le_of_ble_eq_true rfl) dL_law_1729 ⟨(Nat.le_of_ble_eq_true rfl), (Nat.le_of_ble_eq_true rfl)⟩ ⟨show cells + 1 + 4 ≤ room_1.cells by omega, show slots + 6 + 48 ≤ room_1.slots by omega⟩ (fun v9 w9 h9 => ?_) (fun _ h9 => h9.elim)
  obtain ⟨ra9, rfl, rfl⟩ := h9
  refine r_istore C dL_law_1732 (by decide) rfl ?_
  refine t_swap3 ?_
  refine r_goto (tgt := 2128) C dL_law_1734 (by decide) ?_
  refine r_widen (k := cells + 500) (n := slots + 10000) (show cells + 1 + 4 ≤ cells + 500 by omega) (show slots + 6 + 48 ≤ slots + 10000 by omega) ?_
  refine r_drop 5 ?_
  refine r_drop 6 ?_
  exact kk _ ⟨f', r', hf', hq', kn, ra9, _, sm, _, _, hC', hB', hM', rfl⟩

def kL_law_r24 : List (Nat × Instr × Nat) := [(1252, .lcmp, 1), (1253, .ifCond .eq 5, 3), (1256, .iconst 0, 1), (1257, .ireturn, 1), (1258, .goto 1226, 3), (1261, .aload_n 1, 1), (1262, .aload_n 0, 1), (1263, .iload 4, 2), (1265, .iconst 1, 1), (1266, .iadd, 1), (1267, .iaload, 1), (1268, .aload_n 0, 1), (1269, .iload 4, 2), (1271, .iconst 2, 1), (1272, .iadd, 1), (1273, .iaload, 1), (1274, .aload_n 3, 1), (1275, .invokestatic 174, 3), (1278, .istore 5, 2), (1280, .aload_n 2, 1), (1281, .aload_n 0, 1), (1282, .iload 4, 2), (1284, .iconst 1, 1), (1285, .iadd, 1), (1286, .iaload, 1), (1287, .aload_n 0, 1), (1288, .iload 4, 2), (1290, .iconst 2, 1), (1291, .iadd, 1), (1292, .iaload, 1)]
set_option maxRecDepth 100000 in
theorem kL_law_r24_ok : kL_law_r24.all (fun q => decide (decode cL_law_ q.1 = .ok q.2)) = true := by decide +kernel
theorem dL_law__1252 : decode cL_law_ 1252 = .ok (.lcmp, 1) := dk_get kL_law_r24_ok 0 rfl
theorem dL_law__1253 : decode cL_law_ 1253 = .ok (.ifCond .eq 5, 3) := dk_get kL_law_r24_ok 1 rfl
theorem dL_law__1256 : decode cL_law_ 1256 = .ok (.iconst 0, 1) := dk_get kL_law_r24_ok 2 rfl
theorem dL_law__1257 : decode cL_law_ 1257 = .ok (.ireturn, 1) := dk_get kL_law_r24_ok 3 rfl
theorem dL_law__1258 : decode cL_law_ 1258 = .ok (.goto 1226, 3) := dk_get kL_law_r24_ok 4 rfl
theorem dL_law__1261 : decode cL_law_ 1261 = .ok (.aload_n 1, 1) := dk_get kL_law_r24_ok 5 rfl
theorem dL_law__1262 : decode cL_law_ 1262 = .ok (.aload_n 0, 1) := dk_get kL_law_r24_ok 6 rfl
theorem dL_law__1263 : decode cL_law_ 1263 = .ok (.iload 4, 2) := dk_get kL_law_r24_ok 7 rfl
theorem dL_law__1265 : decode cL_law_ 1265 = .ok (.iconst 1, 1) := dk_get kL_law_r24_ok 8 rfl
theorem dL_law__1266 : decode cL_law_ 1266 = .ok (.iadd, 1) := dk_get kL_law_r24_ok 9 rfl
theorem dL_law__1267 : decode cL_law_ 1267 = .ok (.iaload, 1) := dk_get kL_law_r24_ok 10 rfl
theorem dL_law__1268 : decode cL_law_ 1268 = .ok (.aload_n 0, 1) := dk_get kL_law_r24_ok 11 rfl
theorem dL_law__1269 : decode cL_law_ 1269 = .ok (.iload 4, 2) := dk_get kL_law_r24_ok 12 rfl
theorem dL_law__1271 : decode cL_law_ 1271 = .ok (.iconst 2, 1) := dk_get kL_law_r24_ok 13 rfl
theorem dL_law__1272 : decode cL_law_ 1272 = .ok (.iadd, 1) := dk_get kL_law_r24_ok 14 rfl
theorem dL_law__1273 : decode cL_law_ 1273 = .ok (.iaload, 1) := dk_get kL_law_r24_ok 15 rfl
theorem dL_law__1274 : decode cL_law_ 1274 = .ok (.aload_n 3, 1) := dk_get kL_law_r24_ok 16 rfl
theorem dL_law__1275 : decode cL_law_ 1275 = .ok (.invokestatic 174, 3) := dk_get kL_law_r24_ok 17 rfl
theorem dL_law__1278 : decode cL_law_ 1278 = .ok (.istore 5, 2) := dk_get kL_law_r24_ok 18 rfl
theorem dL_law__1280 : decode cL_law_ 1280 = .ok (.aload_n 2, 1) := dk_get kL_law_r24_ok 19 rfl
theorem dL_law__1281 : decode cL_law_ 1281 = .ok (.aload_n 0, 1) := dk_get kL_law_r24_ok 20 rfl
theorem dL_law__1282 : decode cL_law_ 1282 = .ok (.iload 4, 2) := dk_get kL_law_r24_ok 21 rfl
theorem dL_law__1284 : decode cL_law_ 1284 = .ok (.iconst 1, 1) := dk_get kL_law_r24_ok 22 rfl
theorem dL_law__1285 : decode cL_law_ 1285 = .ok (.iadd, 1) := dk_get kL_law_r24_ok 23 rfl
theorem dL_law__1286 : decode cL_law_ 1286 = .ok (.iaload, 1) := dk_get kL_law_r24_ok 24 rfl
theorem dL_law__1287 : decode cL_law_ 1287 = .ok (.aload_n 0, 1) := dk_get kL_law_r24_ok 25 rfl
theorem dL_law__1288 : decode cL_law_ 1288 = .ok (.iload 4, 2) := dk_get kL_law_r24_ok 26 rfl
theorem dL_law__1290 : decode cL_law_ 1290 = .ok (.iconst 2, 1) := dk_get kL_law_r24_ok 27 rfl
theorem dL_law__1291 : decode cL_law_ 1291 = .ok (.iadd, 1) := dk_get kL_law_r24_ok 28 rfl
theorem dL_law__1292 : decode cL_law_ 1292 = .ok (.iaload, 1) := dk_get kL_law_r24_ok 29 rfl
def kL_law_r25 : List (Nat × Instr × Nat) := [(1293, .invokevirtual 176, 3), (1296, .istore 6, 2), (1298, .aload_n 2, 1), (1299, .invokevirtual 122, 3), (1302, .iload 5, 2), (1304, .if_icmp .eq 5, 3), (1307, .iconst 0, 1), (1308, .ireturn, 1), (1309, .iload 5, 2), (1311, .ifCond .ne 15, 3), (1314, .aload_n 3, 1), (1315, .iconst 0, 1), (1316, .laload, 1), (1317, .iload 6, 2), (1319, .i2l, 1), (1320, .lcmp, 1), (1321, .ifCond .eq 5, 3), (1324, .iconst 0, 1), (1325, .ireturn, 1), (1326, .goto 1158, 3), (1329, .aload_n 1, 1), (1330, .aload_n 0, 1), (1331, .iload 4, 2), (1333, .iconst 1, 1), (1334, .iadd, 1), (1335, .iaload, 1), (1336, .aload_n 0, 1), (1337, .iload 4, 2), (1339, .iconst 2, 1), (1340, .iadd, 1)]
set_option maxRecDepth 100000 in
theorem kL_law_r25_ok : kL_law_r25.all (fun q => decide (decode cL_law_ q.1 = .ok q.2)) = true := by decide +kernel
theorem dL_law__1293 : decode cL_law_ 1293 = .ok (.invokevirtual 176, 3) := dk_get kL_law_r25_ok 0 rfl
theorem dL_law__1296 : decode cL_law_ 1296 = .ok (.istore 6, 2) := dk_get kL_law_r25_ok 1 rfl
theorem dL_law__1298 : decode cL_law_ 1298 = .ok (.aload_n 2, 1) := dk_get kL_law_r25_ok 2 rfl
theorem dL_law__1299 : decode cL_law_ 1299 = .ok (.invokevirtual 122, 3) := dk_get kL_law_r25_ok 3 rfl
theorem dL_law__1302 : decode cL_law_ 1302 = .ok (.iload 5, 2) := dk_get kL_law_r25_ok 4 rfl
theorem dL_law__1304 : decode cL_law_ 1304 = .ok (.if_icmp .eq 5, 3) := dk_get kL_law_r25_ok 5 rfl
theorem dL_law__1307 : decode cL_law_ 1307 = .ok (.iconst 0, 1) := dk_get kL_law_r25_ok 6 rfl
theorem dL_law__1308 : decode cL_law_ 1308 = .ok (.ireturn, 1) := dk_get kL_law_r25_ok 7 rfl
theorem dL_law__1309 : decode cL_law_ 1309 = .ok (.iload 5, 2) := dk_get kL_law_r25_ok 8 rfl
theorem dL_law__1311 : decode cL_law_ 1311 = .ok (.ifCond .ne 15, 3) := dk_get kL_law_r25_ok 9 rfl
theorem dL_law__1314 : decode cL_law_ 1314 = .ok (.aload_n 3, 1) := dk_get kL_law_r25_ok 10 rfl
theorem dL_law__1315 : decode cL_law_ 1315 = .ok (.iconst 0, 1) := dk_get kL_law_r25_ok 11 rfl
theorem dL_law__1316 : decode cL_law_ 1316 = .ok (.laload, 1) := dk_get kL_law_r25_ok 12 rfl
theorem dL_law__1317 : decode cL_law_ 1317 = .ok (.iload 6, 2) := dk_get kL_law_r25_ok 13 rfl
theorem dL_law__1319 : decode cL_law_ 1319 = .ok (.i2l, 1) := dk_get kL_law_r25_ok 14 rfl
theorem dL_law__1320 : decode cL_law_ 1320 = .ok (.lcmp, 1) := dk_get kL_law_r25_ok 15 rfl
theorem dL_law__1321 : decode cL_law_ 1321 = .ok (.ifCond .eq 5, 3) := dk_get kL_law_r25_ok 16 rfl
theorem dL_law__1324 : decode cL_law_ 1324 = .ok (.iconst 0, 1) := dk_get kL_law_r25_ok 17 rfl
theorem dL_law__1325 : decode cL_law_ 1325 = .ok (.ireturn, 1) := dk_get kL_law_r25_ok 18 rfl
theorem dL_law__1326 : decode cL_law_ 1326 = .ok (.goto 1158, 3) := dk_get kL_law_r25_ok 19 rfl
theorem dL_law__1329 : decode cL_law_ 1329 = .ok (.aload_n 1, 1) := dk_get kL_law_r25_ok 20 rfl
theorem dL_law__1330 : decode cL_law_ 1330 = .ok (.aload_n 0, 1) := dk_get kL_law_r25_ok 21 rfl
theorem dL_law__1331 : decode cL_law_ 1331 = .ok (.iload 4, 2) := dk_get kL_law_r25_ok 22 rfl
theorem dL_law__1333 : decode cL_law_ 1333 = .ok (.iconst 1, 1) := dk_get kL_law_r25_ok 23 rfl
theorem dL_law__1334 : decode cL_law_ 1334 = .ok (.iadd, 1) := dk_get kL_law_r25_ok 24 rfl
theorem dL_law__1335 : decode cL_law_ 1335 = .ok (.iaload, 1) := dk_get kL_law_r25_ok 25 rfl
theorem dL_law__1336 : decode cL_law_ 1336 = .ok (.aload_n 0, 1) := dk_get kL_law_r25_ok 26 rfl
theorem dL_law__1337 : decode cL_law_ 1337 = .ok (.iload 4, 2) := dk_get kL_law_r25_ok 27 rfl
theorem dL_law__1339 : decode cL_law_ 1339 = .ok (.iconst 2, 1) := dk_get kL_law_r25_ok 28 rfl
theorem dL_law__1340 : decode cL_law_ 1340 = .ok (.iadd, 1) := dk_get kL_law_r25_ok 29 rfl
def kL_law_r26 : List (Nat × Instr × Nat) := [(1341, .iaload, 1), (1342, .aload_n 3, 1), (1343, .invokestatic 177, 3), (1346, .istore 5, 2), (1348, .aload_n 2, 1), (1349, .aload_n 0, 1), (1350, .iload 4, 2), (1352, .iconst 1, 1), (1353, .iadd, 1), (1354, .iaload, 1), (1355, .aload_n 0, 1), (1356, .iload 4, 2), (1358, .iconst 2, 1), (1359, .iadd, 1), (1360, .iaload, 1), (1361, .invokevirtual 179, 3), (1364, .istore 6, 2), (1366, .aload_n 2, 1), (1367, .invokevirtual 122, 3), (1370, .iload 5, 2), (1372, .if_icmp .eq 5, 3), (1375, .iconst 0, 1), (1376, .ireturn, 1), (1377, .iload 5, 2), (1379, .ifCond .ne 15, 3), (1382, .aload_n 3, 1), (1383, .iconst 0, 1), (1384, .laload, 1), (1385, .iload 6, 2), (1387, .i2l, 1)]
set_option maxRecDepth 100000 in
theorem kL_law_r26_ok : kL_law_r26.all (fun q => decide (decode cL_law_ q.1 = .ok q.2)) = true := by decide +kernel
theorem dL_law__1341 : decode cL_law_ 1341 = .ok (.iaload, 1) := dk_get kL_law_r26_ok 0 rfl
theorem dL_law__1342 : decode cL_law_ 1342 = .ok (.aload_n 3, 1) := dk_get kL_law_r26_ok 1 rfl
theorem dL_law__1343 : decode cL_law_ 1343 = .ok (.invokestatic 177, 3) := dk_get kL_law_r26_ok 2 rfl
theorem dL_law__1346 : decode cL_law_ 1346 = .ok (.istore 5, 2) := dk_get kL_law_r26_ok 3 rfl
theorem dL_law__1348 : decode cL_law_ 1348 = .ok (.aload_n 2, 1) := dk_get kL_law_r26_ok 4 rfl
theorem dL_law__1349 : decode cL_law_ 1349 = .ok (.aload_n 0, 1) := dk_get kL_law_r26_ok 5 rfl
theorem dL_law__1350 : decode cL_law_ 1350 = .ok (.iload 4, 2) := dk_get kL_law_r26_ok 6 rfl
theorem dL_law__1352 : decode cL_law_ 1352 = .ok (.iconst 1, 1) := dk_get kL_law_r26_ok 7 rfl
theorem dL_law__1353 : decode cL_law_ 1353 = .ok (.iadd, 1) := dk_get kL_law_r26_ok 8 rfl
theorem dL_law__1354 : decode cL_law_ 1354 = .ok (.iaload, 1) := dk_get kL_law_r26_ok 9 rfl
theorem dL_law__1355 : decode cL_law_ 1355 = .ok (.aload_n 0, 1) := dk_get kL_law_r26_ok 10 rfl
theorem dL_law__1356 : decode cL_law_ 1356 = .ok (.iload 4, 2) := dk_get kL_law_r26_ok 11 rfl
theorem dL_law__1358 : decode cL_law_ 1358 = .ok (.iconst 2, 1) := dk_get kL_law_r26_ok 12 rfl
theorem dL_law__1359 : decode cL_law_ 1359 = .ok (.iadd, 1) := dk_get kL_law_r26_ok 13 rfl
theorem dL_law__1360 : decode cL_law_ 1360 = .ok (.iaload, 1) := dk_get kL_law_r26_ok 14 rfl
theorem dL_law__1361 : decode cL_law_ 1361 = .ok (.invokevirtual 179, 3) := dk_get kL_law_r26_ok 15 rfl
theorem dL_law__1364 : decode cL_law_ 1364 = .ok (.istore 6, 2) := dk_get kL_law_r26_ok 16 rfl
theorem dL_law__1366 : decode cL_law_ 1366 = .ok (.aload_n 2, 1) := dk_get kL_law_r26_ok 17 rfl
theorem dL_law__1367 : decode cL_law_ 1367 = .ok (.invokevirtual 122, 3) := dk_get kL_law_r26_ok 18 rfl
theorem dL_law__1370 : decode cL_law_ 1370 = .ok (.iload 5, 2) := dk_get kL_law_r26_ok 19 rfl
theorem dL_law__1372 : decode cL_law_ 1372 = .ok (.if_icmp .eq 5, 3) := dk_get kL_law_r26_ok 20 rfl
theorem dL_law__1375 : decode cL_law_ 1375 = .ok (.iconst 0, 1) := dk_get kL_law_r26_ok 21 rfl
theorem dL_law__1376 : decode cL_law_ 1376 = .ok (.ireturn, 1) := dk_get kL_law_r26_ok 22 rfl
theorem dL_law__1377 : decode cL_law_ 1377 = .ok (.iload 5, 2) := dk_get kL_law_r26_ok 23 rfl
theorem dL_law__1379 : decode cL_law_ 1379 = .ok (.ifCond .ne 15, 3) := dk_get kL_law_r26_ok 24 rfl
theorem dL_law__1382 : decode cL_law_ 1382 = .ok (.aload_n 3, 1) := dk_get kL_law_r26_ok 25 rfl
theorem dL_law__1383 : decode cL_law_ 1383 = .ok (.iconst 0, 1) := dk_get kL_law_r26_ok 26 rfl
theorem dL_law__1384 : decode cL_law_ 1384 = .ok (.laload, 1) := dk_get kL_law_r26_ok 27 rfl
theorem dL_law__1385 : decode cL_law_ 1385 = .ok (.iload 6, 2) := dk_get kL_law_r26_ok 28 rfl
theorem dL_law__1387 : decode cL_law_ 1387 = .ok (.i2l, 1) := dk_get kL_law_r26_ok 29 rfl
def kL_law_r27 : List (Nat × Instr × Nat) := [(1388, .lcmp, 1), (1389, .ifCond .eq 5, 3), (1392, .iconst 0, 1), (1393, .ireturn, 1), (1394, .goto 1090, 3), (1397, .aload_n 1, 1), (1398, .invokevirtual 180, 3), (1401, .aload_n 2, 1), (1402, .invokevirtual 184, 3), (1405, .lcmp, 1), (1406, .ifCond .eq 1078, 3), (1409, .iconst 0, 1), (1410, .ireturn, 1), (1411, .aload_n 1, 1), (1412, .invokevirtual 185, 3), (1415, .aload_n 2, 1), (1416, .invokevirtual 188, 3), (1419, .if_icmp .eq 1065, 3), (1422, .iconst 0, 1), (1423, .ireturn, 1), (1424, .aload_n 1, 1), (1425, .aload_n 0, 1), (1426, .iload 4, 2), (1428, .iconst 1, 1), (1429, .iadd, 1), (1430, .iaload, 1), (1431, .aload_n 3, 1), (1432, .invokestatic 189, 3), (1435, .istore 5, 2), (1437, .aload_n 2, 1)]
set_option maxRecDepth 100000 in
theorem kL_law_r27_ok : kL_law_r27.all (fun q => decide (decode cL_law_ q.1 = .ok q.2)) = true := by decide +kernel
theorem dL_law__1388 : decode cL_law_ 1388 = .ok (.lcmp, 1) := dk_get kL_law_r27_ok 0 rfl
theorem dL_law__1389 : decode cL_law_ 1389 = .ok (.ifCond .eq 5, 3) := dk_get kL_law_r27_ok 1 rfl
theorem dL_law__1392 : decode cL_law_ 1392 = .ok (.iconst 0, 1) := dk_get kL_law_r27_ok 2 rfl
theorem dL_law__1393 : decode cL_law_ 1393 = .ok (.ireturn, 1) := dk_get kL_law_r27_ok 3 rfl
theorem dL_law__1394 : decode cL_law_ 1394 = .ok (.goto 1090, 3) := dk_get kL_law_r27_ok 4 rfl
theorem dL_law__1397 : decode cL_law_ 1397 = .ok (.aload_n 1, 1) := dk_get kL_law_r27_ok 5 rfl
theorem dL_law__1398 : decode cL_law_ 1398 = .ok (.invokevirtual 180, 3) := dk_get kL_law_r27_ok 6 rfl
theorem dL_law__1401 : decode cL_law_ 1401 = .ok (.aload_n 2, 1) := dk_get kL_law_r27_ok 7 rfl
theorem dL_law__1402 : decode cL_law_ 1402 = .ok (.invokevirtual 184, 3) := dk_get kL_law_r27_ok 8 rfl
theorem dL_law__1405 : decode cL_law_ 1405 = .ok (.lcmp, 1) := dk_get kL_law_r27_ok 9 rfl
theorem dL_law__1406 : decode cL_law_ 1406 = .ok (.ifCond .eq 1078, 3) := dk_get kL_law_r27_ok 10 rfl
theorem dL_law__1409 : decode cL_law_ 1409 = .ok (.iconst 0, 1) := dk_get kL_law_r27_ok 11 rfl
theorem dL_law__1410 : decode cL_law_ 1410 = .ok (.ireturn, 1) := dk_get kL_law_r27_ok 12 rfl
theorem dL_law__1411 : decode cL_law_ 1411 = .ok (.aload_n 1, 1) := dk_get kL_law_r27_ok 13 rfl
theorem dL_law__1412 : decode cL_law_ 1412 = .ok (.invokevirtual 185, 3) := dk_get kL_law_r27_ok 14 rfl
theorem dL_law__1415 : decode cL_law_ 1415 = .ok (.aload_n 2, 1) := dk_get kL_law_r27_ok 15 rfl
theorem dL_law__1416 : decode cL_law_ 1416 = .ok (.invokevirtual 188, 3) := dk_get kL_law_r27_ok 16 rfl
theorem dL_law__1419 : decode cL_law_ 1419 = .ok (.if_icmp .eq 1065, 3) := dk_get kL_law_r27_ok 17 rfl
theorem dL_law__1422 : decode cL_law_ 1422 = .ok (.iconst 0, 1) := dk_get kL_law_r27_ok 18 rfl
theorem dL_law__1423 : decode cL_law_ 1423 = .ok (.ireturn, 1) := dk_get kL_law_r27_ok 19 rfl
theorem dL_law__1424 : decode cL_law_ 1424 = .ok (.aload_n 1, 1) := dk_get kL_law_r27_ok 20 rfl
theorem dL_law__1425 : decode cL_law_ 1425 = .ok (.aload_n 0, 1) := dk_get kL_law_r27_ok 21 rfl
theorem dL_law__1426 : decode cL_law_ 1426 = .ok (.iload 4, 2) := dk_get kL_law_r27_ok 22 rfl
theorem dL_law__1428 : decode cL_law_ 1428 = .ok (.iconst 1, 1) := dk_get kL_law_r27_ok 23 rfl
theorem dL_law__1429 : decode cL_law_ 1429 = .ok (.iadd, 1) := dk_get kL_law_r27_ok 24 rfl
theorem dL_law__1430 : decode cL_law_ 1430 = .ok (.iaload, 1) := dk_get kL_law_r27_ok 25 rfl
theorem dL_law__1431 : decode cL_law_ 1431 = .ok (.aload_n 3, 1) := dk_get kL_law_r27_ok 26 rfl
theorem dL_law__1432 : decode cL_law_ 1432 = .ok (.invokestatic 189, 3) := dk_get kL_law_r27_ok 27 rfl
theorem dL_law__1435 : decode cL_law_ 1435 = .ok (.istore 5, 2) := dk_get kL_law_r27_ok 28 rfl
theorem dL_law__1437 : decode cL_law_ 1437 = .ok (.aload_n 2, 1) := dk_get kL_law_r27_ok 29 rfl

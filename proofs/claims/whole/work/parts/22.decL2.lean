set_option maxRecDepth 100000 in
theorem dLg_2_0 : decAll cL_law [(1264, .aload_n 0, 1), (1265, .iload 4, 2), (1267, .iconst 3, 1), (1268, .iadd, 1), (1269, .iaload, 1), (1270, .invokevirtual 114, 3), (1273, .if_icmp .eq 1057, 3), (1276, .iconst 0, 1), (1277, .ireturn, 1), (1278, .aload_n 1, 1), (1279, .aload_n 0, 1), (1280, .iload 4, 2), (1282, .iconst 1, 1), (1283, .iadd, 1), (1284, .iaload, 1), (1285, .aload_n 0, 1), (1286, .iload 4, 2), (1288, .iconst 2, 1), (1289, .iadd, 1), (1290, .iaload, 1), (1291, .aload_n 0, 1), (1292, .iload 4, 2), (1294, .iconst 3, 1), (1295, .iadd, 1), (1296, .iaload, 1), (1297, .invokevirtual 115, 3), (1300, .aload_n 2, 1), (1301, .aload_n 0, 1), (1302, .iload 4, 2), (1304, .iconst 1, 1), (1305, .iadd, 1), (1306, .iaload, 1), (1307, .aload_n 0, 1), (1308, .iload 4, 2), (1310, .iconst 2, 1), (1311, .iadd, 1), (1312, .iaload, 1), (1313, .aload_n 0, 1), (1314, .iload 4, 2), (1316, .iconst 3, 1), (1317, .iadd, 1), (1318, .iaload, 1), (1319, .invokevirtual 118, 3), (1322, .if_icmp .eq 1008, 3), (1325, .iconst 0, 1), (1326, .ireturn, 1), (1327, .aload_n 1, 1), (1328, .aload_n 0, 1), (1329, .iload 4, 2), (1331, .iconst 1, 1)] = true := by decide +kernel
theorem dL_law_1264 : decode cL_law 1264 = .ok (.aload_n 0, 1) := decAll_at dLg_2_0 0 rfl
theorem dL_law_1265 : decode cL_law 1265 = .ok (.iload 4, 2) := decAll_at dLg_2_0 1 rfl
theorem dL_law_1267 : decode cL_law 1267 = .ok (.iconst 3, 1) := decAll_at dLg_2_0 2 rfl
theorem dL_law_1268 : decode cL_law 1268 = .ok (.iadd, 1) := decAll_at dLg_2_0 3 rfl
theorem dL_law_1269 : decode cL_law 1269 = .ok (.iaload, 1) := decAll_at dLg_2_0 4 rfl
theorem dL_law_1270 : decode cL_law 1270 = .ok (.invokevirtual 114, 3) := decAll_at dLg_2_0 5 rfl
theorem dL_law_1273 : decode cL_law 1273 = .ok (.if_icmp .eq 1057, 3) := decAll_at dLg_2_0 6 rfl
theorem dL_law_1276 : decode cL_law 1276 = .ok (.iconst 0, 1) := decAll_at dLg_2_0 7 rfl
theorem dL_law_1277 : decode cL_law 1277 = .ok (.ireturn, 1) := decAll_at dLg_2_0 8 rfl
theorem dL_law_1278 : decode cL_law 1278 = .ok (.aload_n 1, 1) := decAll_at dLg_2_0 9 rfl
theorem dL_law_1279 : decode cL_law 1279 = .ok (.aload_n 0, 1) := decAll_at dLg_2_0 10 rfl
theorem dL_law_1280 : decode cL_law 1280 = .ok (.iload 4, 2) := decAll_at dLg_2_0 11 rfl
theorem dL_law_1282 : decode cL_law 1282 = .ok (.iconst 1, 1) := decAll_at dLg_2_0 12 rfl
theorem dL_law_1283 : decode cL_law 1283 = .ok (.iadd, 1) := decAll_at dLg_2_0 13 rfl
theorem dL_law_1284 : decode cL_law 1284 = .ok (.iaload, 1) := decAll_at dLg_2_0 14 rfl
theorem dL_law_1285 : decode cL_law 1285 = .ok (.aload_n 0, 1) := decAll_at dLg_2_0 15 rfl
theorem dL_law_1286 : decode cL_law 1286 = .ok (.iload 4, 2) := decAll_at dLg_2_0 16 rfl
theorem dL_law_1288 : decode cL_law 1288 = .ok (.iconst 2, 1) := decAll_at dLg_2_0 17 rfl
theorem dL_law_1289 : decode cL_law 1289 = .ok (.iadd, 1) := decAll_at dLg_2_0 18 rfl
theorem dL_law_1290 : decode cL_law 1290 = .ok (.iaload, 1) := decAll_at dLg_2_0 19 rfl
theorem dL_law_1291 : decode cL_law 1291 = .ok (.aload_n 0, 1) := decAll_at dLg_2_0 20 rfl
theorem dL_law_1292 : decode cL_law 1292 = .ok (.iload 4, 2) := decAll_at dLg_2_0 21 rfl
theorem dL_law_1294 : decode cL_law 1294 = .ok (.iconst 3, 1) := decAll_at dLg_2_0 22 rfl
theorem dL_law_1295 : decode cL_law 1295 = .ok (.iadd, 1) := decAll_at dLg_2_0 23 rfl
theorem dL_law_1296 : decode cL_law 1296 = .ok (.iaload, 1) := decAll_at dLg_2_0 24 rfl
theorem dL_law_1297 : decode cL_law 1297 = .ok (.invokevirtual 115, 3) := decAll_at dLg_2_0 25 rfl
theorem dL_law_1300 : decode cL_law 1300 = .ok (.aload_n 2, 1) := decAll_at dLg_2_0 26 rfl
theorem dL_law_1301 : decode cL_law 1301 = .ok (.aload_n 0, 1) := decAll_at dLg_2_0 27 rfl
theorem dL_law_1302 : decode cL_law 1302 = .ok (.iload 4, 2) := decAll_at dLg_2_0 28 rfl
theorem dL_law_1304 : decode cL_law 1304 = .ok (.iconst 1, 1) := decAll_at dLg_2_0 29 rfl
theorem dL_law_1305 : decode cL_law 1305 = .ok (.iadd, 1) := decAll_at dLg_2_0 30 rfl
theorem dL_law_1306 : decode cL_law 1306 = .ok (.iaload, 1) := decAll_at dLg_2_0 31 rfl
theorem dL_law_1307 : decode cL_law 1307 = .ok (.aload_n 0, 1) := decAll_at dLg_2_0 32 rfl
theorem dL_law_1308 : decode cL_law 1308 = .ok (.iload 4, 2) := decAll_at dLg_2_0 33 rfl
theorem dL_law_1310 : decode cL_law 1310 = .ok (.iconst 2, 1) := decAll_at dLg_2_0 34 rfl
theorem dL_law_1311 : decode cL_law 1311 = .ok (.iadd, 1) := decAll_at dLg_2_0 35 rfl
theorem dL_law_1312 : decode cL_law 1312 = .ok (.iaload, 1) := decAll_at dLg_2_0 36 rfl
theorem dL_law_1313 : decode cL_law 1313 = .ok (.aload_n 0, 1) := decAll_at dLg_2_0 37 rfl
theorem dL_law_1314 : decode cL_law 1314 = .ok (.iload 4, 2) := decAll_at dLg_2_0 38 rfl
theorem dL_law_1316 : decode cL_law 1316 = .ok (.iconst 3, 1) := decAll_at dLg_2_0 39 rfl
theorem dL_law_1317 : decode cL_law 1317 = .ok (.iadd, 1) := decAll_at dLg_2_0 40 rfl
theorem dL_law_1318 : decode cL_law 1318 = .ok (.iaload, 1) := decAll_at dLg_2_0 41 rfl
theorem dL_law_1319 : decode cL_law 1319 = .ok (.invokevirtual 118, 3) := decAll_at dLg_2_0 42 rfl
theorem dL_law_1322 : decode cL_law 1322 = .ok (.if_icmp .eq 1008, 3) := decAll_at dLg_2_0 43 rfl
theorem dL_law_1325 : decode cL_law 1325 = .ok (.iconst 0, 1) := decAll_at dLg_2_0 44 rfl
theorem dL_law_1326 : decode cL_law 1326 = .ok (.ireturn, 1) := decAll_at dLg_2_0 45 rfl
theorem dL_law_1327 : decode cL_law 1327 = .ok (.aload_n 1, 1) := decAll_at dLg_2_0 46 rfl
theorem dL_law_1328 : decode cL_law 1328 = .ok (.aload_n 0, 1) := decAll_at dLg_2_0 47 rfl
theorem dL_law_1329 : decode cL_law 1329 = .ok (.iload 4, 2) := decAll_at dLg_2_0 48 rfl
theorem dL_law_1331 : decode cL_law 1331 = .ok (.iconst 1, 1) := decAll_at dLg_2_0 49 rfl
set_option maxRecDepth 100000 in
theorem dLg_2_1 : decAll cL_law [(1332, .iadd, 1), (1333, .iaload, 1), (1334, .aload_n 0, 1), (1335, .iload 4, 2), (1337, .iconst 2, 1), (1338, .iadd, 1), (1339, .iaload, 1), (1340, .invokevirtual 119, 3), (1343, .aload_n 2, 1), (1344, .aload_n 0, 1), (1345, .iload 4, 2), (1347, .iconst 1, 1), (1348, .iadd, 1), (1349, .iaload, 1), (1350, .aload_n 0, 1), (1351, .iload 4, 2), (1353, .iconst 2, 1), (1354, .iadd, 1), (1355, .iaload, 1), (1356, .invokevirtual 122, 3), (1359, .if_icmp .eq 971, 3), (1362, .iconst 0, 1), (1363, .ireturn, 1), (1364, .aload_n 1, 1), (1365, .aload_n 0, 1), (1366, .iload 4, 2), (1368, .iconst 1, 1), (1369, .iadd, 1), (1370, .iaload, 1), (1371, .aload_n 0, 1), (1372, .iload 4, 2), (1374, .iconst 2, 1), (1375, .iadd, 1), (1376, .iaload, 1), (1377, .aload_n 0, 1), (1378, .iload 4, 2), (1380, .iconst 3, 1), (1381, .iadd, 1), (1382, .iaload, 1), (1383, .aload_n 0, 1), (1384, .iload 4, 2), (1386, .iconst 4, 1), (1387, .iadd, 1), (1388, .iaload, 1), (1389, .invokevirtual 123, 3), (1392, .aload_n 2, 1), (1393, .aload_n 0, 1), (1394, .iload 4, 2), (1396, .iconst 1, 1), (1397, .iadd, 1)] = true := by decide +kernel
theorem dL_law_1332 : decode cL_law 1332 = .ok (.iadd, 1) := decAll_at dLg_2_1 0 rfl
theorem dL_law_1333 : decode cL_law 1333 = .ok (.iaload, 1) := decAll_at dLg_2_1 1 rfl
theorem dL_law_1334 : decode cL_law 1334 = .ok (.aload_n 0, 1) := decAll_at dLg_2_1 2 rfl
theorem dL_law_1335 : decode cL_law 1335 = .ok (.iload 4, 2) := decAll_at dLg_2_1 3 rfl
theorem dL_law_1337 : decode cL_law 1337 = .ok (.iconst 2, 1) := decAll_at dLg_2_1 4 rfl
theorem dL_law_1338 : decode cL_law 1338 = .ok (.iadd, 1) := decAll_at dLg_2_1 5 rfl
theorem dL_law_1339 : decode cL_law 1339 = .ok (.iaload, 1) := decAll_at dLg_2_1 6 rfl
theorem dL_law_1340 : decode cL_law 1340 = .ok (.invokevirtual 119, 3) := decAll_at dLg_2_1 7 rfl
theorem dL_law_1343 : decode cL_law 1343 = .ok (.aload_n 2, 1) := decAll_at dLg_2_1 8 rfl
theorem dL_law_1344 : decode cL_law 1344 = .ok (.aload_n 0, 1) := decAll_at dLg_2_1 9 rfl
theorem dL_law_1345 : decode cL_law 1345 = .ok (.iload 4, 2) := decAll_at dLg_2_1 10 rfl
theorem dL_law_1347 : decode cL_law 1347 = .ok (.iconst 1, 1) := decAll_at dLg_2_1 11 rfl
theorem dL_law_1348 : decode cL_law 1348 = .ok (.iadd, 1) := decAll_at dLg_2_1 12 rfl
theorem dL_law_1349 : decode cL_law 1349 = .ok (.iaload, 1) := decAll_at dLg_2_1 13 rfl
theorem dL_law_1350 : decode cL_law 1350 = .ok (.aload_n 0, 1) := decAll_at dLg_2_1 14 rfl
theorem dL_law_1351 : decode cL_law 1351 = .ok (.iload 4, 2) := decAll_at dLg_2_1 15 rfl
theorem dL_law_1353 : decode cL_law 1353 = .ok (.iconst 2, 1) := decAll_at dLg_2_1 16 rfl
theorem dL_law_1354 : decode cL_law 1354 = .ok (.iadd, 1) := decAll_at dLg_2_1 17 rfl
theorem dL_law_1355 : decode cL_law 1355 = .ok (.iaload, 1) := decAll_at dLg_2_1 18 rfl
theorem dL_law_1356 : decode cL_law 1356 = .ok (.invokevirtual 122, 3) := decAll_at dLg_2_1 19 rfl
theorem dL_law_1359 : decode cL_law 1359 = .ok (.if_icmp .eq 971, 3) := decAll_at dLg_2_1 20 rfl
theorem dL_law_1362 : decode cL_law 1362 = .ok (.iconst 0, 1) := decAll_at dLg_2_1 21 rfl
theorem dL_law_1363 : decode cL_law 1363 = .ok (.ireturn, 1) := decAll_at dLg_2_1 22 rfl
theorem dL_law_1364 : decode cL_law 1364 = .ok (.aload_n 1, 1) := decAll_at dLg_2_1 23 rfl
theorem dL_law_1365 : decode cL_law 1365 = .ok (.aload_n 0, 1) := decAll_at dLg_2_1 24 rfl
theorem dL_law_1366 : decode cL_law 1366 = .ok (.iload 4, 2) := decAll_at dLg_2_1 25 rfl
theorem dL_law_1368 : decode cL_law 1368 = .ok (.iconst 1, 1) := decAll_at dLg_2_1 26 rfl
theorem dL_law_1369 : decode cL_law 1369 = .ok (.iadd, 1) := decAll_at dLg_2_1 27 rfl
theorem dL_law_1370 : decode cL_law 1370 = .ok (.iaload, 1) := decAll_at dLg_2_1 28 rfl
theorem dL_law_1371 : decode cL_law 1371 = .ok (.aload_n 0, 1) := decAll_at dLg_2_1 29 rfl
theorem dL_law_1372 : decode cL_law 1372 = .ok (.iload 4, 2) := decAll_at dLg_2_1 30 rfl
theorem dL_law_1374 : decode cL_law 1374 = .ok (.iconst 2, 1) := decAll_at dLg_2_1 31 rfl
theorem dL_law_1375 : decode cL_law 1375 = .ok (.iadd, 1) := decAll_at dLg_2_1 32 rfl
theorem dL_law_1376 : decode cL_law 1376 = .ok (.iaload, 1) := decAll_at dLg_2_1 33 rfl
theorem dL_law_1377 : decode cL_law 1377 = .ok (.aload_n 0, 1) := decAll_at dLg_2_1 34 rfl
theorem dL_law_1378 : decode cL_law 1378 = .ok (.iload 4, 2) := decAll_at dLg_2_1 35 rfl
theorem dL_law_1380 : decode cL_law 1380 = .ok (.iconst 3, 1) := decAll_at dLg_2_1 36 rfl
theorem dL_law_1381 : decode cL_law 1381 = .ok (.iadd, 1) := decAll_at dLg_2_1 37 rfl
theorem dL_law_1382 : decode cL_law 1382 = .ok (.iaload, 1) := decAll_at dLg_2_1 38 rfl
theorem dL_law_1383 : decode cL_law 1383 = .ok (.aload_n 0, 1) := decAll_at dLg_2_1 39 rfl
theorem dL_law_1384 : decode cL_law 1384 = .ok (.iload 4, 2) := decAll_at dLg_2_1 40 rfl
theorem dL_law_1386 : decode cL_law 1386 = .ok (.iconst 4, 1) := decAll_at dLg_2_1 41 rfl
theorem dL_law_1387 : decode cL_law 1387 = .ok (.iadd, 1) := decAll_at dLg_2_1 42 rfl
theorem dL_law_1388 : decode cL_law 1388 = .ok (.iaload, 1) := decAll_at dLg_2_1 43 rfl
theorem dL_law_1389 : decode cL_law 1389 = .ok (.invokevirtual 123, 3) := decAll_at dLg_2_1 44 rfl
theorem dL_law_1392 : decode cL_law 1392 = .ok (.aload_n 2, 1) := decAll_at dLg_2_1 45 rfl
theorem dL_law_1393 : decode cL_law 1393 = .ok (.aload_n 0, 1) := decAll_at dLg_2_1 46 rfl
theorem dL_law_1394 : decode cL_law 1394 = .ok (.iload 4, 2) := decAll_at dLg_2_1 47 rfl
theorem dL_law_1396 : decode cL_law 1396 = .ok (.iconst 1, 1) := decAll_at dLg_2_1 48 rfl
theorem dL_law_1397 : decode cL_law 1397 = .ok (.iadd, 1) := decAll_at dLg_2_1 49 rfl
set_option maxRecDepth 100000 in
theorem dLg_2_2 : decAll cL_law [(1398, .iaload, 1), (1399, .aload_n 0, 1), (1400, .iload 4, 2), (1402, .iconst 2, 1), (1403, .iadd, 1), (1404, .iaload, 1), (1405, .aload_n 0, 1), (1406, .iload 4, 2), (1408, .iconst 3, 1), (1409, .iadd, 1), (1410, .iaload, 1), (1411, .aload_n 0, 1), (1412, .iload 4, 2), (1414, .iconst 4, 1), (1415, .iadd, 1), (1416, .iaload, 1), (1417, .invokevirtual 127, 3), (1420, .lcmp, 1), (1421, .ifCond .eq 909, 3), (1424, .iconst 0, 1), (1425, .ireturn, 1), (1426, .aload_n 1, 1), (1427, .aload_n 0, 1), (1428, .iload 4, 2), (1430, .iconst 1, 1), (1431, .iadd, 1), (1432, .iaload, 1), (1433, .aload_n 0, 1), (1434, .iload 4, 2), (1436, .iconst 2, 1), (1437, .iadd, 1), (1438, .iaload, 1), (1439, .invokevirtual 128, 3), (1442, .aload_n 2, 1), (1443, .aload_n 0, 1), (1444, .iload 4, 2), (1446, .iconst 1, 1), (1447, .iadd, 1), (1448, .iaload, 1), (1449, .aload_n 0, 1), (1450, .iload 4, 2), (1452, .iconst 2, 1), (1453, .iadd, 1), (1454, .iaload, 1), (1455, .invokevirtual 131, 3), (1458, .if_icmp .eq 872, 3), (1461, .iconst 0, 1), (1462, .ireturn, 1), (1463, .aload_n 1, 1), (1464, .aload_n 0, 1)] = true := by decide +kernel
theorem dL_law_1398 : decode cL_law 1398 = .ok (.iaload, 1) := decAll_at dLg_2_2 0 rfl
theorem dL_law_1399 : decode cL_law 1399 = .ok (.aload_n 0, 1) := decAll_at dLg_2_2 1 rfl
theorem dL_law_1400 : decode cL_law 1400 = .ok (.iload 4, 2) := decAll_at dLg_2_2 2 rfl
theorem dL_law_1402 : decode cL_law 1402 = .ok (.iconst 2, 1) := decAll_at dLg_2_2 3 rfl
theorem dL_law_1403 : decode cL_law 1403 = .ok (.iadd, 1) := decAll_at dLg_2_2 4 rfl
theorem dL_law_1404 : decode cL_law 1404 = .ok (.iaload, 1) := decAll_at dLg_2_2 5 rfl
theorem dL_law_1405 : decode cL_law 1405 = .ok (.aload_n 0, 1) := decAll_at dLg_2_2 6 rfl
theorem dL_law_1406 : decode cL_law 1406 = .ok (.iload 4, 2) := decAll_at dLg_2_2 7 rfl
theorem dL_law_1408 : decode cL_law 1408 = .ok (.iconst 3, 1) := decAll_at dLg_2_2 8 rfl
theorem dL_law_1409 : decode cL_law 1409 = .ok (.iadd, 1) := decAll_at dLg_2_2 9 rfl
theorem dL_law_1410 : decode cL_law 1410 = .ok (.iaload, 1) := decAll_at dLg_2_2 10 rfl
theorem dL_law_1411 : decode cL_law 1411 = .ok (.aload_n 0, 1) := decAll_at dLg_2_2 11 rfl
theorem dL_law_1412 : decode cL_law 1412 = .ok (.iload 4, 2) := decAll_at dLg_2_2 12 rfl
theorem dL_law_1414 : decode cL_law 1414 = .ok (.iconst 4, 1) := decAll_at dLg_2_2 13 rfl
theorem dL_law_1415 : decode cL_law 1415 = .ok (.iadd, 1) := decAll_at dLg_2_2 14 rfl
theorem dL_law_1416 : decode cL_law 1416 = .ok (.iaload, 1) := decAll_at dLg_2_2 15 rfl
theorem dL_law_1417 : decode cL_law 1417 = .ok (.invokevirtual 127, 3) := decAll_at dLg_2_2 16 rfl
theorem dL_law_1420 : decode cL_law 1420 = .ok (.lcmp, 1) := decAll_at dLg_2_2 17 rfl
theorem dL_law_1421 : decode cL_law 1421 = .ok (.ifCond .eq 909, 3) := decAll_at dLg_2_2 18 rfl
theorem dL_law_1424 : decode cL_law 1424 = .ok (.iconst 0, 1) := decAll_at dLg_2_2 19 rfl
theorem dL_law_1425 : decode cL_law 1425 = .ok (.ireturn, 1) := decAll_at dLg_2_2 20 rfl
theorem dL_law_1426 : decode cL_law 1426 = .ok (.aload_n 1, 1) := decAll_at dLg_2_2 21 rfl
theorem dL_law_1427 : decode cL_law 1427 = .ok (.aload_n 0, 1) := decAll_at dLg_2_2 22 rfl
theorem dL_law_1428 : decode cL_law 1428 = .ok (.iload 4, 2) := decAll_at dLg_2_2 23 rfl
theorem dL_law_1430 : decode cL_law 1430 = .ok (.iconst 1, 1) := decAll_at dLg_2_2 24 rfl
theorem dL_law_1431 : decode cL_law 1431 = .ok (.iadd, 1) := decAll_at dLg_2_2 25 rfl
theorem dL_law_1432 : decode cL_law 1432 = .ok (.iaload, 1) := decAll_at dLg_2_2 26 rfl
theorem dL_law_1433 : decode cL_law 1433 = .ok (.aload_n 0, 1) := decAll_at dLg_2_2 27 rfl
theorem dL_law_1434 : decode cL_law 1434 = .ok (.iload 4, 2) := decAll_at dLg_2_2 28 rfl
theorem dL_law_1436 : decode cL_law 1436 = .ok (.iconst 2, 1) := decAll_at dLg_2_2 29 rfl
theorem dL_law_1437 : decode cL_law 1437 = .ok (.iadd, 1) := decAll_at dLg_2_2 30 rfl
theorem dL_law_1438 : decode cL_law 1438 = .ok (.iaload, 1) := decAll_at dLg_2_2 31 rfl
theorem dL_law_1439 : decode cL_law 1439 = .ok (.invokevirtual 128, 3) := decAll_at dLg_2_2 32 rfl
theorem dL_law_1442 : decode cL_law 1442 = .ok (.aload_n 2, 1) := decAll_at dLg_2_2 33 rfl
theorem dL_law_1443 : decode cL_law 1443 = .ok (.aload_n 0, 1) := decAll_at dLg_2_2 34 rfl
theorem dL_law_1444 : decode cL_law 1444 = .ok (.iload 4, 2) := decAll_at dLg_2_2 35 rfl
theorem dL_law_1446 : decode cL_law 1446 = .ok (.iconst 1, 1) := decAll_at dLg_2_2 36 rfl
theorem dL_law_1447 : decode cL_law 1447 = .ok (.iadd, 1) := decAll_at dLg_2_2 37 rfl
theorem dL_law_1448 : decode cL_law 1448 = .ok (.iaload, 1) := decAll_at dLg_2_2 38 rfl
theorem dL_law_1449 : decode cL_law 1449 = .ok (.aload_n 0, 1) := decAll_at dLg_2_2 39 rfl
theorem dL_law_1450 : decode cL_law 1450 = .ok (.iload 4, 2) := decAll_at dLg_2_2 40 rfl
theorem dL_law_1452 : decode cL_law 1452 = .ok (.iconst 2, 1) := decAll_at dLg_2_2 41 rfl
theorem dL_law_1453 : decode cL_law 1453 = .ok (.iadd, 1) := decAll_at dLg_2_2 42 rfl
theorem dL_law_1454 : decode cL_law 1454 = .ok (.iaload, 1) := decAll_at dLg_2_2 43 rfl
theorem dL_law_1455 : decode cL_law 1455 = .ok (.invokevirtual 131, 3) := decAll_at dLg_2_2 44 rfl
theorem dL_law_1458 : decode cL_law 1458 = .ok (.if_icmp .eq 872, 3) := decAll_at dLg_2_2 45 rfl
theorem dL_law_1461 : decode cL_law 1461 = .ok (.iconst 0, 1) := decAll_at dLg_2_2 46 rfl
theorem dL_law_1462 : decode cL_law 1462 = .ok (.ireturn, 1) := decAll_at dLg_2_2 47 rfl
theorem dL_law_1463 : decode cL_law 1463 = .ok (.aload_n 1, 1) := decAll_at dLg_2_2 48 rfl
theorem dL_law_1464 : decode cL_law 1464 = .ok (.aload_n 0, 1) := decAll_at dLg_2_2 49 rfl
set_option maxRecDepth 100000 in
theorem dLg_2_3 : decAll cL_law [(1465, .iload 4, 2), (1467, .iconst 1, 1), (1468, .iadd, 1), (1469, .iaload, 1), (1470, .aload_n 0, 1), (1471, .iload 4, 2), (1473, .iconst 2, 1), (1474, .iadd, 1), (1475, .iaload, 1), (1476, .aload_n 0, 1), (1477, .iload 4, 2), (1479, .iconst 3, 1), (1480, .iadd, 1), (1481, .iaload, 1), (1482, .invokevirtual 132, 3), (1485, .aload_n 2, 1), (1486, .aload_n 0, 1), (1487, .iload 4, 2), (1489, .iconst 1, 1), (1490, .iadd, 1), (1491, .iaload, 1), (1492, .aload_n 0, 1), (1493, .iload 4, 2), (1495, .iconst 2, 1), (1496, .iadd, 1), (1497, .iaload, 1), (1498, .aload_n 0, 1), (1499, .iload 4, 2), (1501, .iconst 3, 1), (1502, .iadd, 1), (1503, .iaload, 1), (1504, .invokevirtual 136, 3), (1507, .lcmp, 1), (1508, .ifCond .eq 822, 3), (1511, .iconst 0, 1), (1512, .ireturn, 1), (1513, .aload_n 1, 1), (1514, .aload_n 0, 1), (1515, .iload 4, 2), (1517, .iconst 1, 1), (1518, .iadd, 1), (1519, .iaload, 1), (1520, .aload_n 0, 1), (1521, .iload 4, 2), (1523, .iconst 2, 1), (1524, .iadd, 1), (1525, .iaload, 1), (1526, .aload_n 0, 1), (1527, .iload 4, 2), (1529, .iconst 3, 1)] = true := by decide +kernel
theorem dL_law_1465 : decode cL_law 1465 = .ok (.iload 4, 2) := decAll_at dLg_2_3 0 rfl
theorem dL_law_1467 : decode cL_law 1467 = .ok (.iconst 1, 1) := decAll_at dLg_2_3 1 rfl
theorem dL_law_1468 : decode cL_law 1468 = .ok (.iadd, 1) := decAll_at dLg_2_3 2 rfl
theorem dL_law_1469 : decode cL_law 1469 = .ok (.iaload, 1) := decAll_at dLg_2_3 3 rfl
theorem dL_law_1470 : decode cL_law 1470 = .ok (.aload_n 0, 1) := decAll_at dLg_2_3 4 rfl
theorem dL_law_1471 : decode cL_law 1471 = .ok (.iload 4, 2) := decAll_at dLg_2_3 5 rfl
theorem dL_law_1473 : decode cL_law 1473 = .ok (.iconst 2, 1) := decAll_at dLg_2_3 6 rfl
theorem dL_law_1474 : decode cL_law 1474 = .ok (.iadd, 1) := decAll_at dLg_2_3 7 rfl
theorem dL_law_1475 : decode cL_law 1475 = .ok (.iaload, 1) := decAll_at dLg_2_3 8 rfl
theorem dL_law_1476 : decode cL_law 1476 = .ok (.aload_n 0, 1) := decAll_at dLg_2_3 9 rfl
theorem dL_law_1477 : decode cL_law 1477 = .ok (.iload 4, 2) := decAll_at dLg_2_3 10 rfl
theorem dL_law_1479 : decode cL_law 1479 = .ok (.iconst 3, 1) := decAll_at dLg_2_3 11 rfl
theorem dL_law_1480 : decode cL_law 1480 = .ok (.iadd, 1) := decAll_at dLg_2_3 12 rfl
theorem dL_law_1481 : decode cL_law 1481 = .ok (.iaload, 1) := decAll_at dLg_2_3 13 rfl
theorem dL_law_1482 : decode cL_law 1482 = .ok (.invokevirtual 132, 3) := decAll_at dLg_2_3 14 rfl
theorem dL_law_1485 : decode cL_law 1485 = .ok (.aload_n 2, 1) := decAll_at dLg_2_3 15 rfl
theorem dL_law_1486 : decode cL_law 1486 = .ok (.aload_n 0, 1) := decAll_at dLg_2_3 16 rfl
theorem dL_law_1487 : decode cL_law 1487 = .ok (.iload 4, 2) := decAll_at dLg_2_3 17 rfl
theorem dL_law_1489 : decode cL_law 1489 = .ok (.iconst 1, 1) := decAll_at dLg_2_3 18 rfl
theorem dL_law_1490 : decode cL_law 1490 = .ok (.iadd, 1) := decAll_at dLg_2_3 19 rfl
theorem dL_law_1491 : decode cL_law 1491 = .ok (.iaload, 1) := decAll_at dLg_2_3 20 rfl
theorem dL_law_1492 : decode cL_law 1492 = .ok (.aload_n 0, 1) := decAll_at dLg_2_3 21 rfl
theorem dL_law_1493 : decode cL_law 1493 = .ok (.iload 4, 2) := decAll_at dLg_2_3 22 rfl
theorem dL_law_1495 : decode cL_law 1495 = .ok (.iconst 2, 1) := decAll_at dLg_2_3 23 rfl
theorem dL_law_1496 : decode cL_law 1496 = .ok (.iadd, 1) := decAll_at dLg_2_3 24 rfl
theorem dL_law_1497 : decode cL_law 1497 = .ok (.iaload, 1) := decAll_at dLg_2_3 25 rfl
theorem dL_law_1498 : decode cL_law 1498 = .ok (.aload_n 0, 1) := decAll_at dLg_2_3 26 rfl
theorem dL_law_1499 : decode cL_law 1499 = .ok (.iload 4, 2) := decAll_at dLg_2_3 27 rfl
theorem dL_law_1501 : decode cL_law 1501 = .ok (.iconst 3, 1) := decAll_at dLg_2_3 28 rfl
theorem dL_law_1502 : decode cL_law 1502 = .ok (.iadd, 1) := decAll_at dLg_2_3 29 rfl
theorem dL_law_1503 : decode cL_law 1503 = .ok (.iaload, 1) := decAll_at dLg_2_3 30 rfl
theorem dL_law_1504 : decode cL_law 1504 = .ok (.invokevirtual 136, 3) := decAll_at dLg_2_3 31 rfl
theorem dL_law_1507 : decode cL_law 1507 = .ok (.lcmp, 1) := decAll_at dLg_2_3 32 rfl
theorem dL_law_1508 : decode cL_law 1508 = .ok (.ifCond .eq 822, 3) := decAll_at dLg_2_3 33 rfl
theorem dL_law_1511 : decode cL_law 1511 = .ok (.iconst 0, 1) := decAll_at dLg_2_3 34 rfl
theorem dL_law_1512 : decode cL_law 1512 = .ok (.ireturn, 1) := decAll_at dLg_2_3 35 rfl
theorem dL_law_1513 : decode cL_law 1513 = .ok (.aload_n 1, 1) := decAll_at dLg_2_3 36 rfl
theorem dL_law_1514 : decode cL_law 1514 = .ok (.aload_n 0, 1) := decAll_at dLg_2_3 37 rfl
theorem dL_law_1515 : decode cL_law 1515 = .ok (.iload 4, 2) := decAll_at dLg_2_3 38 rfl
theorem dL_law_1517 : decode cL_law 1517 = .ok (.iconst 1, 1) := decAll_at dLg_2_3 39 rfl
theorem dL_law_1518 : decode cL_law 1518 = .ok (.iadd, 1) := decAll_at dLg_2_3 40 rfl
theorem dL_law_1519 : decode cL_law 1519 = .ok (.iaload, 1) := decAll_at dLg_2_3 41 rfl
theorem dL_law_1520 : decode cL_law 1520 = .ok (.aload_n 0, 1) := decAll_at dLg_2_3 42 rfl
theorem dL_law_1521 : decode cL_law 1521 = .ok (.iload 4, 2) := decAll_at dLg_2_3 43 rfl
theorem dL_law_1523 : decode cL_law 1523 = .ok (.iconst 2, 1) := decAll_at dLg_2_3 44 rfl
theorem dL_law_1524 : decode cL_law 1524 = .ok (.iadd, 1) := decAll_at dLg_2_3 45 rfl
theorem dL_law_1525 : decode cL_law 1525 = .ok (.iaload, 1) := decAll_at dLg_2_3 46 rfl
theorem dL_law_1526 : decode cL_law 1526 = .ok (.aload_n 0, 1) := decAll_at dLg_2_3 47 rfl
theorem dL_law_1527 : decode cL_law 1527 = .ok (.iload 4, 2) := decAll_at dLg_2_3 48 rfl
theorem dL_law_1529 : decode cL_law 1529 = .ok (.iconst 3, 1) := decAll_at dLg_2_3 49 rfl
set_option maxRecDepth 100000 in
theorem dLg_2_4 : decAll cL_law [(1530, .iadd, 1), (1531, .iaload, 1), (1532, .aload_n 0, 1), (1533, .iload 4, 2), (1535, .iconst 4, 1), (1536, .iadd, 1), (1537, .iaload, 1), (1538, .invokevirtual 137, 3), (1541, .aload_n 2, 1), (1542, .aload_n 0, 1), (1543, .iload 4, 2), (1545, .iconst 1, 1), (1546, .iadd, 1), (1547, .iaload, 1), (1548, .aload_n 0, 1), (1549, .iload 4, 2), (1551, .iconst 2, 1), (1552, .iadd, 1), (1553, .iaload, 1), (1554, .aload_n 0, 1), (1555, .iload 4, 2), (1557, .iconst 3, 1), (1558, .iadd, 1), (1559, .iaload, 1), (1560, .aload_n 0, 1), (1561, .iload 4, 2), (1563, .iconst 4, 1), (1564, .iadd, 1), (1565, .iaload, 1), (1566, .invokevirtual 140, 3), (1569, .if_icmp .eq 761, 3), (1572, .iconst 0, 1), (1573, .ireturn, 1), (1574, .aload_n 1, 1), (1575, .aload_n 0, 1), (1576, .iload 4, 2), (1578, .iconst 1, 1), (1579, .iadd, 1), (1580, .iaload, 1), (1581, .aload_n 0, 1), (1582, .iload 4, 2), (1584, .iconst 2, 1), (1585, .iadd, 1), (1586, .iaload, 1), (1587, .aload_n 0, 1), (1588, .iload 4, 2), (1590, .iconst 3, 1), (1591, .iadd, 1), (1592, .iaload, 1), (1593, .aload_n 0, 1)] = true := by decide +kernel
theorem dL_law_1530 : decode cL_law 1530 = .ok (.iadd, 1) := decAll_at dLg_2_4 0 rfl
theorem dL_law_1531 : decode cL_law 1531 = .ok (.iaload, 1) := decAll_at dLg_2_4 1 rfl
theorem dL_law_1532 : decode cL_law 1532 = .ok (.aload_n 0, 1) := decAll_at dLg_2_4 2 rfl
theorem dL_law_1533 : decode cL_law 1533 = .ok (.iload 4, 2) := decAll_at dLg_2_4 3 rfl
theorem dL_law_1535 : decode cL_law 1535 = .ok (.iconst 4, 1) := decAll_at dLg_2_4 4 rfl
theorem dL_law_1536 : decode cL_law 1536 = .ok (.iadd, 1) := decAll_at dLg_2_4 5 rfl
theorem dL_law_1537 : decode cL_law 1537 = .ok (.iaload, 1) := decAll_at dLg_2_4 6 rfl
theorem dL_law_1538 : decode cL_law 1538 = .ok (.invokevirtual 137, 3) := decAll_at dLg_2_4 7 rfl
theorem dL_law_1541 : decode cL_law 1541 = .ok (.aload_n 2, 1) := decAll_at dLg_2_4 8 rfl
theorem dL_law_1542 : decode cL_law 1542 = .ok (.aload_n 0, 1) := decAll_at dLg_2_4 9 rfl
theorem dL_law_1543 : decode cL_law 1543 = .ok (.iload 4, 2) := decAll_at dLg_2_4 10 rfl
theorem dL_law_1545 : decode cL_law 1545 = .ok (.iconst 1, 1) := decAll_at dLg_2_4 11 rfl
theorem dL_law_1546 : decode cL_law 1546 = .ok (.iadd, 1) := decAll_at dLg_2_4 12 rfl
theorem dL_law_1547 : decode cL_law 1547 = .ok (.iaload, 1) := decAll_at dLg_2_4 13 rfl
theorem dL_law_1548 : decode cL_law 1548 = .ok (.aload_n 0, 1) := decAll_at dLg_2_4 14 rfl
theorem dL_law_1549 : decode cL_law 1549 = .ok (.iload 4, 2) := decAll_at dLg_2_4 15 rfl
theorem dL_law_1551 : decode cL_law 1551 = .ok (.iconst 2, 1) := decAll_at dLg_2_4 16 rfl
theorem dL_law_1552 : decode cL_law 1552 = .ok (.iadd, 1) := decAll_at dLg_2_4 17 rfl
theorem dL_law_1553 : decode cL_law 1553 = .ok (.iaload, 1) := decAll_at dLg_2_4 18 rfl
theorem dL_law_1554 : decode cL_law 1554 = .ok (.aload_n 0, 1) := decAll_at dLg_2_4 19 rfl
theorem dL_law_1555 : decode cL_law 1555 = .ok (.iload 4, 2) := decAll_at dLg_2_4 20 rfl
theorem dL_law_1557 : decode cL_law 1557 = .ok (.iconst 3, 1) := decAll_at dLg_2_4 21 rfl
theorem dL_law_1558 : decode cL_law 1558 = .ok (.iadd, 1) := decAll_at dLg_2_4 22 rfl
theorem dL_law_1559 : decode cL_law 1559 = .ok (.iaload, 1) := decAll_at dLg_2_4 23 rfl
theorem dL_law_1560 : decode cL_law 1560 = .ok (.aload_n 0, 1) := decAll_at dLg_2_4 24 rfl
theorem dL_law_1561 : decode cL_law 1561 = .ok (.iload 4, 2) := decAll_at dLg_2_4 25 rfl
theorem dL_law_1563 : decode cL_law 1563 = .ok (.iconst 4, 1) := decAll_at dLg_2_4 26 rfl
theorem dL_law_1564 : decode cL_law 1564 = .ok (.iadd, 1) := decAll_at dLg_2_4 27 rfl
theorem dL_law_1565 : decode cL_law 1565 = .ok (.iaload, 1) := decAll_at dLg_2_4 28 rfl
theorem dL_law_1566 : decode cL_law 1566 = .ok (.invokevirtual 140, 3) := decAll_at dLg_2_4 29 rfl
theorem dL_law_1569 : decode cL_law 1569 = .ok (.if_icmp .eq 761, 3) := decAll_at dLg_2_4 30 rfl
theorem dL_law_1572 : decode cL_law 1572 = .ok (.iconst 0, 1) := decAll_at dLg_2_4 31 rfl
theorem dL_law_1573 : decode cL_law 1573 = .ok (.ireturn, 1) := decAll_at dLg_2_4 32 rfl
theorem dL_law_1574 : decode cL_law 1574 = .ok (.aload_n 1, 1) := decAll_at dLg_2_4 33 rfl
theorem dL_law_1575 : decode cL_law 1575 = .ok (.aload_n 0, 1) := decAll_at dLg_2_4 34 rfl
theorem dL_law_1576 : decode cL_law 1576 = .ok (.iload 4, 2) := decAll_at dLg_2_4 35 rfl
theorem dL_law_1578 : decode cL_law 1578 = .ok (.iconst 1, 1) := decAll_at dLg_2_4 36 rfl
theorem dL_law_1579 : decode cL_law 1579 = .ok (.iadd, 1) := decAll_at dLg_2_4 37 rfl
theorem dL_law_1580 : decode cL_law 1580 = .ok (.iaload, 1) := decAll_at dLg_2_4 38 rfl
theorem dL_law_1581 : decode cL_law 1581 = .ok (.aload_n 0, 1) := decAll_at dLg_2_4 39 rfl
theorem dL_law_1582 : decode cL_law 1582 = .ok (.iload 4, 2) := decAll_at dLg_2_4 40 rfl
theorem dL_law_1584 : decode cL_law 1584 = .ok (.iconst 2, 1) := decAll_at dLg_2_4 41 rfl
theorem dL_law_1585 : decode cL_law 1585 = .ok (.iadd, 1) := decAll_at dLg_2_4 42 rfl
theorem dL_law_1586 : decode cL_law 1586 = .ok (.iaload, 1) := decAll_at dLg_2_4 43 rfl
theorem dL_law_1587 : decode cL_law 1587 = .ok (.aload_n 0, 1) := decAll_at dLg_2_4 44 rfl
theorem dL_law_1588 : decode cL_law 1588 = .ok (.iload 4, 2) := decAll_at dLg_2_4 45 rfl
theorem dL_law_1590 : decode cL_law 1590 = .ok (.iconst 3, 1) := decAll_at dLg_2_4 46 rfl
theorem dL_law_1591 : decode cL_law 1591 = .ok (.iadd, 1) := decAll_at dLg_2_4 47 rfl
theorem dL_law_1592 : decode cL_law 1592 = .ok (.iaload, 1) := decAll_at dLg_2_4 48 rfl
theorem dL_law_1593 : decode cL_law 1593 = .ok (.aload_n 0, 1) := decAll_at dLg_2_4 49 rfl
set_option maxRecDepth 100000 in
theorem dLg_2_5 : decAll cL_law [(1594, .iload 4, 2), (1596, .iconst 4, 1), (1597, .iadd, 1), (1598, .iaload, 1), (1599, .invokevirtual 141, 3), (1602, .aload_n 2, 1), (1603, .aload_n 0, 1), (1604, .iload 4, 2), (1606, .iconst 1, 1), (1607, .iadd, 1), (1608, .iaload, 1), (1609, .aload_n 0, 1), (1610, .iload 4, 2), (1612, .iconst 2, 1), (1613, .iadd, 1), (1614, .iaload, 1), (1615, .aload_n 0, 1), (1616, .iload 4, 2), (1618, .iconst 3, 1), (1619, .iadd, 1), (1620, .iaload, 1), (1621, .aload_n 0, 1), (1622, .iload 4, 2), (1624, .iconst 4, 1), (1625, .iadd, 1), (1626, .iaload, 1), (1627, .invokevirtual 144, 3), (1630, .lcmp, 1), (1631, .ifCond .eq 699, 3), (1634, .iconst 0, 1), (1635, .ireturn, 1), (1636, .aload_n 1, 1), (1637, .aload_n 0, 1), (1638, .iload 4, 2), (1640, .iconst 1, 1), (1641, .iadd, 1), (1642, .iaload, 1), (1643, .aload_n 0, 1), (1644, .iload 4, 2), (1646, .iconst 2, 1), (1647, .iadd, 1), (1648, .iaload, 1), (1649, .aload_n 0, 1), (1650, .iload 4, 2), (1652, .iconst 3, 1), (1653, .iadd, 1), (1654, .iaload, 1), (1655, .invokevirtual 145, 3), (1658, .aload_n 2, 1), (1659, .aload_n 0, 1)] = true := by decide +kernel
theorem dL_law_1594 : decode cL_law 1594 = .ok (.iload 4, 2) := decAll_at dLg_2_5 0 rfl
theorem dL_law_1596 : decode cL_law 1596 = .ok (.iconst 4, 1) := decAll_at dLg_2_5 1 rfl
theorem dL_law_1597 : decode cL_law 1597 = .ok (.iadd, 1) := decAll_at dLg_2_5 2 rfl
theorem dL_law_1598 : decode cL_law 1598 = .ok (.iaload, 1) := decAll_at dLg_2_5 3 rfl
theorem dL_law_1599 : decode cL_law 1599 = .ok (.invokevirtual 141, 3) := decAll_at dLg_2_5 4 rfl
theorem dL_law_1602 : decode cL_law 1602 = .ok (.aload_n 2, 1) := decAll_at dLg_2_5 5 rfl
theorem dL_law_1603 : decode cL_law 1603 = .ok (.aload_n 0, 1) := decAll_at dLg_2_5 6 rfl
theorem dL_law_1604 : decode cL_law 1604 = .ok (.iload 4, 2) := decAll_at dLg_2_5 7 rfl
theorem dL_law_1606 : decode cL_law 1606 = .ok (.iconst 1, 1) := decAll_at dLg_2_5 8 rfl
theorem dL_law_1607 : decode cL_law 1607 = .ok (.iadd, 1) := decAll_at dLg_2_5 9 rfl
theorem dL_law_1608 : decode cL_law 1608 = .ok (.iaload, 1) := decAll_at dLg_2_5 10 rfl
theorem dL_law_1609 : decode cL_law 1609 = .ok (.aload_n 0, 1) := decAll_at dLg_2_5 11 rfl
theorem dL_law_1610 : decode cL_law 1610 = .ok (.iload 4, 2) := decAll_at dLg_2_5 12 rfl
theorem dL_law_1612 : decode cL_law 1612 = .ok (.iconst 2, 1) := decAll_at dLg_2_5 13 rfl
theorem dL_law_1613 : decode cL_law 1613 = .ok (.iadd, 1) := decAll_at dLg_2_5 14 rfl
theorem dL_law_1614 : decode cL_law 1614 = .ok (.iaload, 1) := decAll_at dLg_2_5 15 rfl
theorem dL_law_1615 : decode cL_law 1615 = .ok (.aload_n 0, 1) := decAll_at dLg_2_5 16 rfl
theorem dL_law_1616 : decode cL_law 1616 = .ok (.iload 4, 2) := decAll_at dLg_2_5 17 rfl
theorem dL_law_1618 : decode cL_law 1618 = .ok (.iconst 3, 1) := decAll_at dLg_2_5 18 rfl
theorem dL_law_1619 : decode cL_law 1619 = .ok (.iadd, 1) := decAll_at dLg_2_5 19 rfl
theorem dL_law_1620 : decode cL_law 1620 = .ok (.iaload, 1) := decAll_at dLg_2_5 20 rfl
theorem dL_law_1621 : decode cL_law 1621 = .ok (.aload_n 0, 1) := decAll_at dLg_2_5 21 rfl
theorem dL_law_1622 : decode cL_law 1622 = .ok (.iload 4, 2) := decAll_at dLg_2_5 22 rfl
theorem dL_law_1624 : decode cL_law 1624 = .ok (.iconst 4, 1) := decAll_at dLg_2_5 23 rfl
theorem dL_law_1625 : decode cL_law 1625 = .ok (.iadd, 1) := decAll_at dLg_2_5 24 rfl
theorem dL_law_1626 : decode cL_law 1626 = .ok (.iaload, 1) := decAll_at dLg_2_5 25 rfl
theorem dL_law_1627 : decode cL_law 1627 = .ok (.invokevirtual 144, 3) := decAll_at dLg_2_5 26 rfl
theorem dL_law_1630 : decode cL_law 1630 = .ok (.lcmp, 1) := decAll_at dLg_2_5 27 rfl
theorem dL_law_1631 : decode cL_law 1631 = .ok (.ifCond .eq 699, 3) := decAll_at dLg_2_5 28 rfl
theorem dL_law_1634 : decode cL_law 1634 = .ok (.iconst 0, 1) := decAll_at dLg_2_5 29 rfl
theorem dL_law_1635 : decode cL_law 1635 = .ok (.ireturn, 1) := decAll_at dLg_2_5 30 rfl
theorem dL_law_1636 : decode cL_law 1636 = .ok (.aload_n 1, 1) := decAll_at dLg_2_5 31 rfl
theorem dL_law_1637 : decode cL_law 1637 = .ok (.aload_n 0, 1) := decAll_at dLg_2_5 32 rfl
theorem dL_law_1638 : decode cL_law 1638 = .ok (.iload 4, 2) := decAll_at dLg_2_5 33 rfl
theorem dL_law_1640 : decode cL_law 1640 = .ok (.iconst 1, 1) := decAll_at dLg_2_5 34 rfl
theorem dL_law_1641 : decode cL_law 1641 = .ok (.iadd, 1) := decAll_at dLg_2_5 35 rfl
theorem dL_law_1642 : decode cL_law 1642 = .ok (.iaload, 1) := decAll_at dLg_2_5 36 rfl
theorem dL_law_1643 : decode cL_law 1643 = .ok (.aload_n 0, 1) := decAll_at dLg_2_5 37 rfl
theorem dL_law_1644 : decode cL_law 1644 = .ok (.iload 4, 2) := decAll_at dLg_2_5 38 rfl
theorem dL_law_1646 : decode cL_law 1646 = .ok (.iconst 2, 1) := decAll_at dLg_2_5 39 rfl
theorem dL_law_1647 : decode cL_law 1647 = .ok (.iadd, 1) := decAll_at dLg_2_5 40 rfl
theorem dL_law_1648 : decode cL_law 1648 = .ok (.iaload, 1) := decAll_at dLg_2_5 41 rfl
theorem dL_law_1649 : decode cL_law 1649 = .ok (.aload_n 0, 1) := decAll_at dLg_2_5 42 rfl
theorem dL_law_1650 : decode cL_law 1650 = .ok (.iload 4, 2) := decAll_at dLg_2_5 43 rfl
theorem dL_law_1652 : decode cL_law 1652 = .ok (.iconst 3, 1) := decAll_at dLg_2_5 44 rfl
theorem dL_law_1653 : decode cL_law 1653 = .ok (.iadd, 1) := decAll_at dLg_2_5 45 rfl
theorem dL_law_1654 : decode cL_law 1654 = .ok (.iaload, 1) := decAll_at dLg_2_5 46 rfl
theorem dL_law_1655 : decode cL_law 1655 = .ok (.invokevirtual 145, 3) := decAll_at dLg_2_5 47 rfl
theorem dL_law_1658 : decode cL_law 1658 = .ok (.aload_n 2, 1) := decAll_at dLg_2_5 48 rfl
theorem dL_law_1659 : decode cL_law 1659 = .ok (.aload_n 0, 1) := decAll_at dLg_2_5 49 rfl
set_option maxRecDepth 100000 in
theorem dLg_2_6 : decAll cL_law [(1660, .iload 4, 2), (1662, .iconst 1, 1), (1663, .iadd, 1), (1664, .iaload, 1), (1665, .aload_n 0, 1), (1666, .iload 4, 2), (1668, .iconst 2, 1), (1669, .iadd, 1), (1670, .iaload, 1), (1671, .aload_n 0, 1), (1672, .iload 4, 2), (1674, .iconst 3, 1), (1675, .iadd, 1), (1676, .iaload, 1), (1677, .invokevirtual 148, 3), (1680, .if_icmp .eq 650, 3), (1683, .iconst 0, 1), (1684, .ireturn, 1), (1685, .aload_n 1, 1), (1686, .aload_n 0, 1), (1687, .iload 4, 2), (1689, .iconst 1, 1), (1690, .iadd, 1), (1691, .iaload, 1), (1692, .aload_n 0, 1), (1693, .iload 4, 2), (1695, .iconst 2, 1), (1696, .iadd, 1), (1697, .iaload, 1), (1698, .aload_n 0, 1), (1699, .iload 4, 2), (1701, .iconst 3, 1), (1702, .iadd, 1), (1703, .iaload, 1), (1704, .invokevirtual 149, 3), (1707, .aload_n 2, 1), (1708, .aload_n 0, 1), (1709, .iload 4, 2), (1711, .iconst 1, 1), (1712, .iadd, 1), (1713, .iaload, 1), (1714, .aload_n 0, 1), (1715, .iload 4, 2), (1717, .iconst 2, 1), (1718, .iadd, 1), (1719, .iaload, 1), (1720, .aload_n 0, 1), (1721, .iload 4, 2), (1723, .iconst 3, 1), (1724, .iadd, 1)] = true := by decide +kernel
theorem dL_law_1660 : decode cL_law 1660 = .ok (.iload 4, 2) := decAll_at dLg_2_6 0 rfl
theorem dL_law_1662 : decode cL_law 1662 = .ok (.iconst 1, 1) := decAll_at dLg_2_6 1 rfl
theorem dL_law_1663 : decode cL_law 1663 = .ok (.iadd, 1) := decAll_at dLg_2_6 2 rfl
theorem dL_law_1664 : decode cL_law 1664 = .ok (.iaload, 1) := decAll_at dLg_2_6 3 rfl
theorem dL_law_1665 : decode cL_law 1665 = .ok (.aload_n 0, 1) := decAll_at dLg_2_6 4 rfl
theorem dL_law_1666 : decode cL_law 1666 = .ok (.iload 4, 2) := decAll_at dLg_2_6 5 rfl
theorem dL_law_1668 : decode cL_law 1668 = .ok (.iconst 2, 1) := decAll_at dLg_2_6 6 rfl
theorem dL_law_1669 : decode cL_law 1669 = .ok (.iadd, 1) := decAll_at dLg_2_6 7 rfl
theorem dL_law_1670 : decode cL_law 1670 = .ok (.iaload, 1) := decAll_at dLg_2_6 8 rfl
theorem dL_law_1671 : decode cL_law 1671 = .ok (.aload_n 0, 1) := decAll_at dLg_2_6 9 rfl
theorem dL_law_1672 : decode cL_law 1672 = .ok (.iload 4, 2) := decAll_at dLg_2_6 10 rfl
theorem dL_law_1674 : decode cL_law 1674 = .ok (.iconst 3, 1) := decAll_at dLg_2_6 11 rfl
theorem dL_law_1675 : decode cL_law 1675 = .ok (.iadd, 1) := decAll_at dLg_2_6 12 rfl
theorem dL_law_1676 : decode cL_law 1676 = .ok (.iaload, 1) := decAll_at dLg_2_6 13 rfl
theorem dL_law_1677 : decode cL_law 1677 = .ok (.invokevirtual 148, 3) := decAll_at dLg_2_6 14 rfl
theorem dL_law_1680 : decode cL_law 1680 = .ok (.if_icmp .eq 650, 3) := decAll_at dLg_2_6 15 rfl
theorem dL_law_1683 : decode cL_law 1683 = .ok (.iconst 0, 1) := decAll_at dLg_2_6 16 rfl
theorem dL_law_1684 : decode cL_law 1684 = .ok (.ireturn, 1) := decAll_at dLg_2_6 17 rfl
theorem dL_law_1685 : decode cL_law 1685 = .ok (.aload_n 1, 1) := decAll_at dLg_2_6 18 rfl
theorem dL_law_1686 : decode cL_law 1686 = .ok (.aload_n 0, 1) := decAll_at dLg_2_6 19 rfl
theorem dL_law_1687 : decode cL_law 1687 = .ok (.iload 4, 2) := decAll_at dLg_2_6 20 rfl
theorem dL_law_1689 : decode cL_law 1689 = .ok (.iconst 1, 1) := decAll_at dLg_2_6 21 rfl
theorem dL_law_1690 : decode cL_law 1690 = .ok (.iadd, 1) := decAll_at dLg_2_6 22 rfl
theorem dL_law_1691 : decode cL_law 1691 = .ok (.iaload, 1) := decAll_at dLg_2_6 23 rfl
theorem dL_law_1692 : decode cL_law 1692 = .ok (.aload_n 0, 1) := decAll_at dLg_2_6 24 rfl
theorem dL_law_1693 : decode cL_law 1693 = .ok (.iload 4, 2) := decAll_at dLg_2_6 25 rfl
theorem dL_law_1695 : decode cL_law 1695 = .ok (.iconst 2, 1) := decAll_at dLg_2_6 26 rfl
theorem dL_law_1696 : decode cL_law 1696 = .ok (.iadd, 1) := decAll_at dLg_2_6 27 rfl
theorem dL_law_1697 : decode cL_law 1697 = .ok (.iaload, 1) := decAll_at dLg_2_6 28 rfl
theorem dL_law_1698 : decode cL_law 1698 = .ok (.aload_n 0, 1) := decAll_at dLg_2_6 29 rfl
theorem dL_law_1699 : decode cL_law 1699 = .ok (.iload 4, 2) := decAll_at dLg_2_6 30 rfl
theorem dL_law_1701 : decode cL_law 1701 = .ok (.iconst 3, 1) := decAll_at dLg_2_6 31 rfl
theorem dL_law_1702 : decode cL_law 1702 = .ok (.iadd, 1) := decAll_at dLg_2_6 32 rfl
theorem dL_law_1703 : decode cL_law 1703 = .ok (.iaload, 1) := decAll_at dLg_2_6 33 rfl
theorem dL_law_1704 : decode cL_law 1704 = .ok (.invokevirtual 149, 3) := decAll_at dLg_2_6 34 rfl
theorem dL_law_1707 : decode cL_law 1707 = .ok (.aload_n 2, 1) := decAll_at dLg_2_6 35 rfl
theorem dL_law_1708 : decode cL_law 1708 = .ok (.aload_n 0, 1) := decAll_at dLg_2_6 36 rfl
theorem dL_law_1709 : decode cL_law 1709 = .ok (.iload 4, 2) := decAll_at dLg_2_6 37 rfl
theorem dL_law_1711 : decode cL_law 1711 = .ok (.iconst 1, 1) := decAll_at dLg_2_6 38 rfl
theorem dL_law_1712 : decode cL_law 1712 = .ok (.iadd, 1) := decAll_at dLg_2_6 39 rfl
theorem dL_law_1713 : decode cL_law 1713 = .ok (.iaload, 1) := decAll_at dLg_2_6 40 rfl
theorem dL_law_1714 : decode cL_law 1714 = .ok (.aload_n 0, 1) := decAll_at dLg_2_6 41 rfl
theorem dL_law_1715 : decode cL_law 1715 = .ok (.iload 4, 2) := decAll_at dLg_2_6 42 rfl
theorem dL_law_1717 : decode cL_law 1717 = .ok (.iconst 2, 1) := decAll_at dLg_2_6 43 rfl
theorem dL_law_1718 : decode cL_law 1718 = .ok (.iadd, 1) := decAll_at dLg_2_6 44 rfl
theorem dL_law_1719 : decode cL_law 1719 = .ok (.iaload, 1) := decAll_at dLg_2_6 45 rfl
theorem dL_law_1720 : decode cL_law 1720 = .ok (.aload_n 0, 1) := decAll_at dLg_2_6 46 rfl
theorem dL_law_1721 : decode cL_law 1721 = .ok (.iload 4, 2) := decAll_at dLg_2_6 47 rfl
theorem dL_law_1723 : decode cL_law 1723 = .ok (.iconst 3, 1) := decAll_at dLg_2_6 48 rfl
theorem dL_law_1724 : decode cL_law 1724 = .ok (.iadd, 1) := decAll_at dLg_2_6 49 rfl
set_option maxRecDepth 100000 in
theorem dLg_2_7 : decAll cL_law [(1725, .iaload, 1), (1726, .invokevirtual 152, 3), (1729, .if_icmp .eq 601, 3), (1732, .iconst 0, 1), (1733, .ireturn, 1), (1734, .aload_n 1, 1), (1735, .aload_n 0, 1), (1736, .iload 4, 2), (1738, .iconst 1, 1), (1739, .iadd, 1), (1740, .iaload, 1), (1741, .aload_n 0, 1), (1742, .iload 4, 2), (1744, .iconst 2, 1), (1745, .iadd, 1), (1746, .iaload, 1), (1747, .invokevirtual 153, 3), (1750, .aload_n 2, 1), (1751, .aload_n 0, 1), (1752, .iload 4, 2), (1754, .iconst 1, 1), (1755, .iadd, 1), (1756, .iaload, 1), (1757, .aload_n 0, 1), (1758, .iload 4, 2), (1760, .iconst 2, 1), (1761, .iadd, 1), (1762, .iaload, 1), (1763, .invokevirtual 156, 3), (1766, .if_icmp .eq 564, 3), (1769, .iconst 0, 1), (1770, .ireturn, 1), (1771, .aload_n 1, 1), (1772, .aload_n 0, 1), (1773, .iload 4, 2), (1775, .iconst 1, 1), (1776, .iadd, 1), (1777, .iaload, 1), (1778, .aload_n 0, 1), (1779, .iload 4, 2), (1781, .iconst 2, 1), (1782, .iadd, 1), (1783, .iaload, 1), (1784, .aload_n 0, 1), (1785, .iload 4, 2), (1787, .iconst 3, 1), (1788, .iadd, 1), (1789, .iaload, 1), (1790, .invokevirtual 157, 3), (1793, .aload_n 2, 1)] = true := by decide +kernel
theorem dL_law_1725 : decode cL_law 1725 = .ok (.iaload, 1) := decAll_at dLg_2_7 0 rfl
theorem dL_law_1726 : decode cL_law 1726 = .ok (.invokevirtual 152, 3) := decAll_at dLg_2_7 1 rfl
theorem dL_law_1729 : decode cL_law 1729 = .ok (.if_icmp .eq 601, 3) := decAll_at dLg_2_7 2 rfl
theorem dL_law_1732 : decode cL_law 1732 = .ok (.iconst 0, 1) := decAll_at dLg_2_7 3 rfl
theorem dL_law_1733 : decode cL_law 1733 = .ok (.ireturn, 1) := decAll_at dLg_2_7 4 rfl
theorem dL_law_1734 : decode cL_law 1734 = .ok (.aload_n 1, 1) := decAll_at dLg_2_7 5 rfl
theorem dL_law_1735 : decode cL_law 1735 = .ok (.aload_n 0, 1) := decAll_at dLg_2_7 6 rfl
theorem dL_law_1736 : decode cL_law 1736 = .ok (.iload 4, 2) := decAll_at dLg_2_7 7 rfl
theorem dL_law_1738 : decode cL_law 1738 = .ok (.iconst 1, 1) := decAll_at dLg_2_7 8 rfl
theorem dL_law_1739 : decode cL_law 1739 = .ok (.iadd, 1) := decAll_at dLg_2_7 9 rfl
theorem dL_law_1740 : decode cL_law 1740 = .ok (.iaload, 1) := decAll_at dLg_2_7 10 rfl
theorem dL_law_1741 : decode cL_law 1741 = .ok (.aload_n 0, 1) := decAll_at dLg_2_7 11 rfl
theorem dL_law_1742 : decode cL_law 1742 = .ok (.iload 4, 2) := decAll_at dLg_2_7 12 rfl
theorem dL_law_1744 : decode cL_law 1744 = .ok (.iconst 2, 1) := decAll_at dLg_2_7 13 rfl
theorem dL_law_1745 : decode cL_law 1745 = .ok (.iadd, 1) := decAll_at dLg_2_7 14 rfl
theorem dL_law_1746 : decode cL_law 1746 = .ok (.iaload, 1) := decAll_at dLg_2_7 15 rfl
theorem dL_law_1747 : decode cL_law 1747 = .ok (.invokevirtual 153, 3) := decAll_at dLg_2_7 16 rfl
theorem dL_law_1750 : decode cL_law 1750 = .ok (.aload_n 2, 1) := decAll_at dLg_2_7 17 rfl
theorem dL_law_1751 : decode cL_law 1751 = .ok (.aload_n 0, 1) := decAll_at dLg_2_7 18 rfl
theorem dL_law_1752 : decode cL_law 1752 = .ok (.iload 4, 2) := decAll_at dLg_2_7 19 rfl
theorem dL_law_1754 : decode cL_law 1754 = .ok (.iconst 1, 1) := decAll_at dLg_2_7 20 rfl
theorem dL_law_1755 : decode cL_law 1755 = .ok (.iadd, 1) := decAll_at dLg_2_7 21 rfl
theorem dL_law_1756 : decode cL_law 1756 = .ok (.iaload, 1) := decAll_at dLg_2_7 22 rfl
theorem dL_law_1757 : decode cL_law 1757 = .ok (.aload_n 0, 1) := decAll_at dLg_2_7 23 rfl
theorem dL_law_1758 : decode cL_law 1758 = .ok (.iload 4, 2) := decAll_at dLg_2_7 24 rfl
theorem dL_law_1760 : decode cL_law 1760 = .ok (.iconst 2, 1) := decAll_at dLg_2_7 25 rfl
theorem dL_law_1761 : decode cL_law 1761 = .ok (.iadd, 1) := decAll_at dLg_2_7 26 rfl
theorem dL_law_1762 : decode cL_law 1762 = .ok (.iaload, 1) := decAll_at dLg_2_7 27 rfl
theorem dL_law_1763 : decode cL_law 1763 = .ok (.invokevirtual 156, 3) := decAll_at dLg_2_7 28 rfl
theorem dL_law_1766 : decode cL_law 1766 = .ok (.if_icmp .eq 564, 3) := decAll_at dLg_2_7 29 rfl
theorem dL_law_1769 : decode cL_law 1769 = .ok (.iconst 0, 1) := decAll_at dLg_2_7 30 rfl
theorem dL_law_1770 : decode cL_law 1770 = .ok (.ireturn, 1) := decAll_at dLg_2_7 31 rfl
theorem dL_law_1771 : decode cL_law 1771 = .ok (.aload_n 1, 1) := decAll_at dLg_2_7 32 rfl
theorem dL_law_1772 : decode cL_law 1772 = .ok (.aload_n 0, 1) := decAll_at dLg_2_7 33 rfl
theorem dL_law_1773 : decode cL_law 1773 = .ok (.iload 4, 2) := decAll_at dLg_2_7 34 rfl
theorem dL_law_1775 : decode cL_law 1775 = .ok (.iconst 1, 1) := decAll_at dLg_2_7 35 rfl
theorem dL_law_1776 : decode cL_law 1776 = .ok (.iadd, 1) := decAll_at dLg_2_7 36 rfl
theorem dL_law_1777 : decode cL_law 1777 = .ok (.iaload, 1) := decAll_at dLg_2_7 37 rfl
theorem dL_law_1778 : decode cL_law 1778 = .ok (.aload_n 0, 1) := decAll_at dLg_2_7 38 rfl
theorem dL_law_1779 : decode cL_law 1779 = .ok (.iload 4, 2) := decAll_at dLg_2_7 39 rfl
theorem dL_law_1781 : decode cL_law 1781 = .ok (.iconst 2, 1) := decAll_at dLg_2_7 40 rfl
theorem dL_law_1782 : decode cL_law 1782 = .ok (.iadd, 1) := decAll_at dLg_2_7 41 rfl
theorem dL_law_1783 : decode cL_law 1783 = .ok (.iaload, 1) := decAll_at dLg_2_7 42 rfl
theorem dL_law_1784 : decode cL_law 1784 = .ok (.aload_n 0, 1) := decAll_at dLg_2_7 43 rfl
theorem dL_law_1785 : decode cL_law 1785 = .ok (.iload 4, 2) := decAll_at dLg_2_7 44 rfl
theorem dL_law_1787 : decode cL_law 1787 = .ok (.iconst 3, 1) := decAll_at dLg_2_7 45 rfl
theorem dL_law_1788 : decode cL_law 1788 = .ok (.iadd, 1) := decAll_at dLg_2_7 46 rfl
theorem dL_law_1789 : decode cL_law 1789 = .ok (.iaload, 1) := decAll_at dLg_2_7 47 rfl
theorem dL_law_1790 : decode cL_law 1790 = .ok (.invokevirtual 157, 3) := decAll_at dLg_2_7 48 rfl
theorem dL_law_1793 : decode cL_law 1793 = .ok (.aload_n 2, 1) := decAll_at dLg_2_7 49 rfl

theorem dL_1260 : decode code 1260 = .ok (.iload_n 3, 1) := by decide +kernel
theorem dL_1261 : decode code 1261 = .ok (.iconst 4, 1) := by decide +kernel
theorem dL_1262 : decode code 1262 = .ok (.iadd, 1) := by decide +kernel
theorem dL_1263 : decode code 1263 = .ok (.iaload, 1) := by decide +kernel
theorem dL_1264 : decode code 1264 = .ok (.invokevirtual 135, 3) := by decide +kernel
theorem dL_1267 : decode code 1267 = .ok (.aload_n 2, 1) := by decide +kernel
theorem dL_1268 : decode code 1268 = .ok (.aload_n 0, 1) := by decide +kernel
theorem dL_1269 : decode code 1269 = .ok (.iload_n 3, 1) := by decide +kernel
theorem dL_1270 : decode code 1270 = .ok (.iconst 1, 1) := by decide +kernel
theorem dL_1271 : decode code 1271 = .ok (.iadd, 1) := by decide +kernel
theorem dL_1272 : decode code 1272 = .ok (.iaload, 1) := by decide +kernel
theorem dL_1273 : decode code 1273 = .ok (.aload_n 0, 1) := by decide +kernel
theorem dL_1274 : decode code 1274 = .ok (.iload_n 3, 1) := by decide +kernel
theorem dL_1275 : decode code 1275 = .ok (.iconst 2, 1) := by decide +kernel
theorem dL_1276 : decode code 1276 = .ok (.iadd, 1) := by decide +kernel
theorem dL_1277 : decode code 1277 = .ok (.iaload, 1) := by decide +kernel
theorem dL_1278 : decode code 1278 = .ok (.aload_n 0, 1) := by decide +kernel
theorem dL_1279 : decode code 1279 = .ok (.iload_n 3, 1) := by decide +kernel
theorem dL_1280 : decode code 1280 = .ok (.iconst 3, 1) := by decide +kernel
theorem dL_1281 : decode code 1281 = .ok (.iadd, 1) := by decide +kernel
theorem dL_1282 : decode code 1282 = .ok (.iaload, 1) := by decide +kernel
theorem dL_1283 : decode code 1283 = .ok (.aload_n 0, 1) := by decide +kernel
theorem dL_1284 : decode code 1284 = .ok (.iload_n 3, 1) := by decide +kernel
theorem dL_1285 : decode code 1285 = .ok (.iconst 4, 1) := by decide +kernel
theorem dL_1286 : decode code 1286 = .ok (.iadd, 1) := by decide +kernel
theorem dL_1287 : decode code 1287 = .ok (.iaload, 1) := by decide +kernel
theorem dL_1288 : decode code 1288 = .ok (.invokevirtual 138, 3) := by decide +kernel
theorem dL_1291 : decode code 1291 = .ok (.if_icmp .eq 454, 3) := by decide +kernel
theorem dL_1294 : decode code 1294 = .ok (.iconst 0, 1) := by decide +kernel
theorem dL_1295 : decode code 1295 = .ok (.ireturn, 1) := by decide +kernel
theorem dL_1296 : decode code 1296 = .ok (.aload_n 1, 1) := by decide +kernel
theorem dL_1297 : decode code 1297 = .ok (.aload_n 0, 1) := by decide +kernel
theorem dL_1298 : decode code 1298 = .ok (.iload_n 3, 1) := by decide +kernel
theorem dL_1299 : decode code 1299 = .ok (.iconst 1, 1) := by decide +kernel
theorem dL_1300 : decode code 1300 = .ok (.iadd, 1) := by decide +kernel
theorem dL_1301 : decode code 1301 = .ok (.iaload, 1) := by decide +kernel
theorem dL_1302 : decode code 1302 = .ok (.aload_n 0, 1) := by decide +kernel
theorem dL_1303 : decode code 1303 = .ok (.iload_n 3, 1) := by decide +kernel
theorem dL_1304 : decode code 1304 = .ok (.iconst 2, 1) := by decide +kernel
theorem dL_1305 : decode code 1305 = .ok (.iadd, 1) := by decide +kernel
theorem dL_1306 : decode code 1306 = .ok (.iaload, 1) := by decide +kernel
theorem dL_1307 : decode code 1307 = .ok (.aload_n 0, 1) := by decide +kernel
theorem dL_1308 : decode code 1308 = .ok (.iload_n 3, 1) := by decide +kernel
theorem dL_1309 : decode code 1309 = .ok (.iconst 3, 1) := by decide +kernel
theorem dL_1310 : decode code 1310 = .ok (.iadd, 1) := by decide +kernel
theorem dL_1311 : decode code 1311 = .ok (.iaload, 1) := by decide +kernel
theorem dL_1312 : decode code 1312 = .ok (.aload_n 0, 1) := by decide +kernel
theorem dL_1313 : decode code 1313 = .ok (.iload_n 3, 1) := by decide +kernel
theorem dL_1314 : decode code 1314 = .ok (.iconst 4, 1) := by decide +kernel
theorem dL_1315 : decode code 1315 = .ok (.iadd, 1) := by decide +kernel
theorem dL_1316 : decode code 1316 = .ok (.iaload, 1) := by decide +kernel
theorem dL_1317 : decode code 1317 = .ok (.invokevirtual 139, 3) := by decide +kernel
theorem dL_1320 : decode code 1320 = .ok (.aload_n 2, 1) := by decide +kernel
theorem dL_1321 : decode code 1321 = .ok (.aload_n 0, 1) := by decide +kernel
theorem dL_1322 : decode code 1322 = .ok (.iload_n 3, 1) := by decide +kernel
theorem dL_1323 : decode code 1323 = .ok (.iconst 1, 1) := by decide +kernel
theorem dL_1324 : decode code 1324 = .ok (.iadd, 1) := by decide +kernel
theorem dL_1325 : decode code 1325 = .ok (.iaload, 1) := by decide +kernel
theorem dL_1326 : decode code 1326 = .ok (.aload_n 0, 1) := by decide +kernel
theorem dL_1327 : decode code 1327 = .ok (.iload_n 3, 1) := by decide +kernel
theorem dL_1328 : decode code 1328 = .ok (.iconst 2, 1) := by decide +kernel
theorem dL_1329 : decode code 1329 = .ok (.iadd, 1) := by decide +kernel
theorem dL_1330 : decode code 1330 = .ok (.iaload, 1) := by decide +kernel
theorem dL_1331 : decode code 1331 = .ok (.aload_n 0, 1) := by decide +kernel
theorem dL_1332 : decode code 1332 = .ok (.iload_n 3, 1) := by decide +kernel
theorem dL_1333 : decode code 1333 = .ok (.iconst 3, 1) := by decide +kernel
theorem dL_1334 : decode code 1334 = .ok (.iadd, 1) := by decide +kernel
theorem dL_1335 : decode code 1335 = .ok (.iaload, 1) := by decide +kernel
theorem dL_1336 : decode code 1336 = .ok (.aload_n 0, 1) := by decide +kernel
theorem dL_1337 : decode code 1337 = .ok (.iload_n 3, 1) := by decide +kernel
theorem dL_1338 : decode code 1338 = .ok (.iconst 4, 1) := by decide +kernel
theorem dL_1339 : decode code 1339 = .ok (.iadd, 1) := by decide +kernel
theorem dL_1340 : decode code 1340 = .ok (.iaload, 1) := by decide +kernel
theorem dL_1341 : decode code 1341 = .ok (.invokevirtual 142, 3) := by decide +kernel
theorem dL_1344 : decode code 1344 = .ok (.if_icmp .eq 401, 3) := by decide +kernel
theorem dL_1347 : decode code 1347 = .ok (.iconst 0, 1) := by decide +kernel
theorem dL_1348 : decode code 1348 = .ok (.ireturn, 1) := by decide +kernel
theorem dL_1349 : decode code 1349 = .ok (.aload_n 1, 1) := by decide +kernel
theorem dL_1350 : decode code 1350 = .ok (.aload_n 0, 1) := by decide +kernel
theorem dL_1351 : decode code 1351 = .ok (.iload_n 3, 1) := by decide +kernel
theorem dL_1352 : decode code 1352 = .ok (.iconst 1, 1) := by decide +kernel
theorem dL_1353 : decode code 1353 = .ok (.iadd, 1) := by decide +kernel
theorem dL_1354 : decode code 1354 = .ok (.iaload, 1) := by decide +kernel
theorem dL_1355 : decode code 1355 = .ok (.aload_n 0, 1) := by decide +kernel
theorem dL_1356 : decode code 1356 = .ok (.iload_n 3, 1) := by decide +kernel
theorem dL_1357 : decode code 1357 = .ok (.iconst 2, 1) := by decide +kernel
theorem dL_1358 : decode code 1358 = .ok (.iadd, 1) := by decide +kernel
theorem dL_1359 : decode code 1359 = .ok (.iaload, 1) := by decide +kernel
theorem dL_1360 : decode code 1360 = .ok (.aload_n 0, 1) := by decide +kernel
theorem dL_1361 : decode code 1361 = .ok (.iload_n 3, 1) := by decide +kernel
theorem dL_1362 : decode code 1362 = .ok (.iconst 3, 1) := by decide +kernel
theorem dL_1363 : decode code 1363 = .ok (.iadd, 1) := by decide +kernel
theorem dL_1364 : decode code 1364 = .ok (.iaload, 1) := by decide +kernel
theorem dL_1365 : decode code 1365 = .ok (.aload_n 0, 1) := by decide +kernel
theorem dL_1366 : decode code 1366 = .ok (.iload_n 3, 1) := by decide +kernel
theorem dL_1367 : decode code 1367 = .ok (.iconst 4, 1) := by decide +kernel
theorem dL_1368 : decode code 1368 = .ok (.iadd, 1) := by decide +kernel
theorem dL_1369 : decode code 1369 = .ok (.iaload, 1) := by decide +kernel
theorem dL_1370 : decode code 1370 = .ok (.invokevirtual 143, 3) := by decide +kernel
theorem dL_1373 : decode code 1373 = .ok (.aload_n 2, 1) := by decide +kernel
theorem dL_1374 : decode code 1374 = .ok (.aload_n 0, 1) := by decide +kernel
theorem dL_1375 : decode code 1375 = .ok (.iload_n 3, 1) := by decide +kernel
theorem dL_1376 : decode code 1376 = .ok (.iconst 1, 1) := by decide +kernel
theorem dL_1377 : decode code 1377 = .ok (.iadd, 1) := by decide +kernel
theorem dL_1378 : decode code 1378 = .ok (.iaload, 1) := by decide +kernel
theorem dL_1379 : decode code 1379 = .ok (.aload_n 0, 1) := by decide +kernel
theorem dL_1380 : decode code 1380 = .ok (.iload_n 3, 1) := by decide +kernel
theorem dL_1381 : decode code 1381 = .ok (.iconst 2, 1) := by decide +kernel
theorem dL_1382 : decode code 1382 = .ok (.iadd, 1) := by decide +kernel
theorem dL_1383 : decode code 1383 = .ok (.iaload, 1) := by decide +kernel
theorem dL_1384 : decode code 1384 = .ok (.aload_n 0, 1) := by decide +kernel
theorem dL_1385 : decode code 1385 = .ok (.iload_n 3, 1) := by decide +kernel
theorem dL_1386 : decode code 1386 = .ok (.iconst 3, 1) := by decide +kernel
theorem dL_1387 : decode code 1387 = .ok (.iadd, 1) := by decide +kernel
theorem dL_1388 : decode code 1388 = .ok (.iaload, 1) := by decide +kernel
theorem dL_1389 : decode code 1389 = .ok (.aload_n 0, 1) := by decide +kernel
theorem dL_1390 : decode code 1390 = .ok (.iload_n 3, 1) := by decide +kernel
theorem dL_1391 : decode code 1391 = .ok (.iconst 4, 1) := by decide +kernel
theorem dL_1392 : decode code 1392 = .ok (.iadd, 1) := by decide +kernel
theorem dL_1393 : decode code 1393 = .ok (.iaload, 1) := by decide +kernel
theorem dL_1394 : decode code 1394 = .ok (.invokevirtual 146, 3) := by decide +kernel
theorem dL_1397 : decode code 1397 = .ok (.if_icmp .eq 348, 3) := by decide +kernel
theorem dL_1400 : decode code 1400 = .ok (.iconst 0, 1) := by decide +kernel
theorem dL_1401 : decode code 1401 = .ok (.ireturn, 1) := by decide +kernel
theorem dL_1402 : decode code 1402 = .ok (.aload_n 1, 1) := by decide +kernel
theorem dL_1403 : decode code 1403 = .ok (.aload_n 0, 1) := by decide +kernel
theorem dL_1404 : decode code 1404 = .ok (.iload_n 3, 1) := by decide +kernel
theorem dL_1405 : decode code 1405 = .ok (.iconst 1, 1) := by decide +kernel
theorem dL_1406 : decode code 1406 = .ok (.iadd, 1) := by decide +kernel
theorem dL_1407 : decode code 1407 = .ok (.iaload, 1) := by decide +kernel
theorem dL_1408 : decode code 1408 = .ok (.aload_n 0, 1) := by decide +kernel
theorem dL_1409 : decode code 1409 = .ok (.iload_n 3, 1) := by decide +kernel
theorem dL_1410 : decode code 1410 = .ok (.iconst 2, 1) := by decide +kernel
theorem dL_1411 : decode code 1411 = .ok (.iadd, 1) := by decide +kernel
theorem dL_1412 : decode code 1412 = .ok (.iaload, 1) := by decide +kernel
theorem dL_1413 : decode code 1413 = .ok (.invokevirtual 147, 3) := by decide +kernel
theorem dL_1416 : decode code 1416 = .ok (.aload_n 2, 1) := by decide +kernel
theorem dL_1417 : decode code 1417 = .ok (.aload_n 0, 1) := by decide +kernel
theorem dL_1418 : decode code 1418 = .ok (.iload_n 3, 1) := by decide +kernel
theorem dL_1419 : decode code 1419 = .ok (.iconst 1, 1) := by decide +kernel
theorem dL_1420 : decode code 1420 = .ok (.iadd, 1) := by decide +kernel
theorem dL_1421 : decode code 1421 = .ok (.iaload, 1) := by decide +kernel
theorem dL_1422 : decode code 1422 = .ok (.aload_n 0, 1) := by decide +kernel
theorem dL_1423 : decode code 1423 = .ok (.iload_n 3, 1) := by decide +kernel
theorem dL_1424 : decode code 1424 = .ok (.iconst 2, 1) := by decide +kernel
theorem dL_1425 : decode code 1425 = .ok (.iadd, 1) := by decide +kernel
theorem dL_1426 : decode code 1426 = .ok (.iaload, 1) := by decide +kernel
theorem dL_1427 : decode code 1427 = .ok (.invokevirtual 150, 3) := by decide +kernel
theorem dL_1430 : decode code 1430 = .ok (.if_icmp .eq 315, 3) := by decide +kernel
theorem dL_1433 : decode code 1433 = .ok (.iconst 0, 1) := by decide +kernel
theorem dL_1434 : decode code 1434 = .ok (.ireturn, 1) := by decide +kernel
theorem dL_1435 : decode code 1435 = .ok (.aload_n 1, 1) := by decide +kernel
theorem dL_1436 : decode code 1436 = .ok (.aload_n 0, 1) := by decide +kernel
theorem dL_1437 : decode code 1437 = .ok (.iload_n 3, 1) := by decide +kernel
theorem dL_1438 : decode code 1438 = .ok (.iconst 1, 1) := by decide +kernel
theorem dL_1439 : decode code 1439 = .ok (.iadd, 1) := by decide +kernel
theorem dL_1440 : decode code 1440 = .ok (.iaload, 1) := by decide +kernel
theorem dL_1441 : decode code 1441 = .ok (.aload_n 0, 1) := by decide +kernel
theorem dL_1442 : decode code 1442 = .ok (.iload_n 3, 1) := by decide +kernel
theorem dL_1443 : decode code 1443 = .ok (.iconst 2, 1) := by decide +kernel
theorem dL_1444 : decode code 1444 = .ok (.iadd, 1) := by decide +kernel
theorem dL_1445 : decode code 1445 = .ok (.iaload, 1) := by decide +kernel
theorem dL_1446 : decode code 1446 = .ok (.invokevirtual 151, 3) := by decide +kernel
theorem dL_1449 : decode code 1449 = .ok (.aload_n 2, 1) := by decide +kernel
theorem dL_1450 : decode code 1450 = .ok (.aload_n 0, 1) := by decide +kernel
theorem dL_1451 : decode code 1451 = .ok (.iload_n 3, 1) := by decide +kernel
theorem dL_1452 : decode code 1452 = .ok (.iconst 1, 1) := by decide +kernel
theorem dL_1453 : decode code 1453 = .ok (.iadd, 1) := by decide +kernel
theorem dL_1454 : decode code 1454 = .ok (.iaload, 1) := by decide +kernel
theorem dL_1455 : decode code 1455 = .ok (.aload_n 0, 1) := by decide +kernel
theorem dL_1456 : decode code 1456 = .ok (.iload_n 3, 1) := by decide +kernel
theorem dL_1457 : decode code 1457 = .ok (.iconst 2, 1) := by decide +kernel
theorem dL_1458 : decode code 1458 = .ok (.iadd, 1) := by decide +kernel
theorem dL_1459 : decode code 1459 = .ok (.iaload, 1) := by decide +kernel
theorem dL_1460 : decode code 1460 = .ok (.invokevirtual 154, 3) := by decide +kernel
theorem dL_1463 : decode code 1463 = .ok (.if_icmp .eq 282, 3) := by decide +kernel
theorem dL_1466 : decode code 1466 = .ok (.iconst 0, 1) := by decide +kernel
theorem dL_1467 : decode code 1467 = .ok (.ireturn, 1) := by decide +kernel
theorem dL_1468 : decode code 1468 = .ok (.aload_n 1, 1) := by decide +kernel
theorem dL_1469 : decode code 1469 = .ok (.aload_n 0, 1) := by decide +kernel
theorem dL_1470 : decode code 1470 = .ok (.iload_n 3, 1) := by decide +kernel
theorem dL_1471 : decode code 1471 = .ok (.iconst 1, 1) := by decide +kernel
theorem dL_1472 : decode code 1472 = .ok (.iadd, 1) := by decide +kernel
theorem dL_1473 : decode code 1473 = .ok (.iaload, 1) := by decide +kernel
theorem dL_1474 : decode code 1474 = .ok (.aload_n 0, 1) := by decide +kernel
theorem dL_1475 : decode code 1475 = .ok (.iload_n 3, 1) := by decide +kernel
theorem dL_1476 : decode code 1476 = .ok (.iconst 2, 1) := by decide +kernel
theorem dL_1477 : decode code 1477 = .ok (.iadd, 1) := by decide +kernel
theorem dL_1478 : decode code 1478 = .ok (.iaload, 1) := by decide +kernel
theorem dL_1479 : decode code 1479 = .ok (.aload_n 0, 1) := by decide +kernel
theorem dL_1480 : decode code 1480 = .ok (.iload_n 3, 1) := by decide +kernel
theorem dL_1481 : decode code 1481 = .ok (.iconst 3, 1) := by decide +kernel
theorem dL_1482 : decode code 1482 = .ok (.iadd, 1) := by decide +kernel
theorem dL_1483 : decode code 1483 = .ok (.iaload, 1) := by decide +kernel
theorem dL_1484 : decode code 1484 = .ok (.invokevirtual 155, 3) := by decide +kernel
theorem dL_1487 : decode code 1487 = .ok (.aload_n 2, 1) := by decide +kernel
theorem dL_1488 : decode code 1488 = .ok (.aload_n 0, 1) := by decide +kernel
theorem dL_1489 : decode code 1489 = .ok (.iload_n 3, 1) := by decide +kernel
theorem dL_1490 : decode code 1490 = .ok (.iconst 1, 1) := by decide +kernel
theorem dL_1491 : decode code 1491 = .ok (.iadd, 1) := by decide +kernel
theorem dL_1492 : decode code 1492 = .ok (.iaload, 1) := by decide +kernel
theorem dL_1493 : decode code 1493 = .ok (.aload_n 0, 1) := by decide +kernel
theorem dL_1494 : decode code 1494 = .ok (.iload_n 3, 1) := by decide +kernel
theorem dL_1495 : decode code 1495 = .ok (.iconst 2, 1) := by decide +kernel
theorem dL_1496 : decode code 1496 = .ok (.iadd, 1) := by decide +kernel
theorem dL_1497 : decode code 1497 = .ok (.iaload, 1) := by decide +kernel
theorem dL_1498 : decode code 1498 = .ok (.aload_n 0, 1) := by decide +kernel
theorem dL_1499 : decode code 1499 = .ok (.iload_n 3, 1) := by decide +kernel
theorem dL_1500 : decode code 1500 = .ok (.iconst 3, 1) := by decide +kernel
theorem dL_1501 : decode code 1501 = .ok (.iadd, 1) := by decide +kernel
theorem dL_1502 : decode code 1502 = .ok (.iaload, 1) := by decide +kernel
theorem dL_1503 : decode code 1503 = .ok (.invokevirtual 158, 3) := by decide +kernel
theorem dL_1506 : decode code 1506 = .ok (.if_icmp .eq 239, 3) := by decide +kernel
theorem dL_1509 : decode code 1509 = .ok (.iconst 0, 1) := by decide +kernel
theorem dL_1510 : decode code 1510 = .ok (.ireturn, 1) := by decide +kernel
theorem dL_1511 : decode code 1511 = .ok (.aload_n 1, 1) := by decide +kernel
theorem dL_1512 : decode code 1512 = .ok (.aload_n 0, 1) := by decide +kernel
theorem dL_1513 : decode code 1513 = .ok (.iload_n 3, 1) := by decide +kernel
theorem dL_1514 : decode code 1514 = .ok (.iconst 1, 1) := by decide +kernel
theorem dL_1515 : decode code 1515 = .ok (.iadd, 1) := by decide +kernel

theorem dL_law_1316 : decode cL_law 1316 = .ok (.iadd, 1) := by decide +kernel
theorem dL_law_1317 : decode cL_law 1317 = .ok (.iaload, 1) := by decide +kernel
theorem dL_law_1318 : decode cL_law 1318 = .ok (.aload_n 0, 1) := by decide +kernel
theorem dL_law_1319 : decode cL_law 1319 = .ok (.iload_n 3, 1) := by decide +kernel
theorem dL_law_1320 : decode cL_law 1320 = .ok (.iconst 4, 1) := by decide +kernel
theorem dL_law_1321 : decode cL_law 1321 = .ok (.iadd, 1) := by decide +kernel
theorem dL_law_1322 : decode cL_law 1322 = .ok (.iaload, 1) := by decide +kernel
theorem dL_law_1323 : decode cL_law 1323 = .ok (.invokevirtual 159, 3) := by decide +kernel
theorem dL_law_1326 : decode cL_law 1326 = .ok (.aload_n 2, 1) := by decide +kernel
theorem dL_law_1327 : decode cL_law 1327 = .ok (.aload_n 0, 1) := by decide +kernel
theorem dL_law_1328 : decode cL_law 1328 = .ok (.iload_n 3, 1) := by decide +kernel
theorem dL_law_1329 : decode cL_law 1329 = .ok (.iconst 1, 1) := by decide +kernel
theorem dL_law_1330 : decode cL_law 1330 = .ok (.iadd, 1) := by decide +kernel
theorem dL_law_1331 : decode cL_law 1331 = .ok (.iaload, 1) := by decide +kernel
theorem dL_law_1332 : decode cL_law 1332 = .ok (.aload_n 0, 1) := by decide +kernel
theorem dL_law_1333 : decode cL_law 1333 = .ok (.iload_n 3, 1) := by decide +kernel
theorem dL_law_1334 : decode cL_law 1334 = .ok (.iconst 2, 1) := by decide +kernel
theorem dL_law_1335 : decode cL_law 1335 = .ok (.iadd, 1) := by decide +kernel
theorem dL_law_1336 : decode cL_law 1336 = .ok (.iaload, 1) := by decide +kernel
theorem dL_law_1337 : decode cL_law 1337 = .ok (.aload_n 0, 1) := by decide +kernel
theorem dL_law_1338 : decode cL_law 1338 = .ok (.iload_n 3, 1) := by decide +kernel
theorem dL_law_1339 : decode cL_law 1339 = .ok (.iconst 3, 1) := by decide +kernel
theorem dL_law_1340 : decode cL_law 1340 = .ok (.iadd, 1) := by decide +kernel
theorem dL_law_1341 : decode cL_law 1341 = .ok (.iaload, 1) := by decide +kernel
theorem dL_law_1342 : decode cL_law 1342 = .ok (.aload_n 0, 1) := by decide +kernel
theorem dL_law_1343 : decode cL_law 1343 = .ok (.iload_n 3, 1) := by decide +kernel
theorem dL_law_1344 : decode cL_law 1344 = .ok (.iconst 4, 1) := by decide +kernel
theorem dL_law_1345 : decode cL_law 1345 = .ok (.iadd, 1) := by decide +kernel
theorem dL_law_1346 : decode cL_law 1346 = .ok (.iaload, 1) := by decide +kernel
theorem dL_law_1347 : decode cL_law 1347 = .ok (.invokevirtual 162, 3) := by decide +kernel
theorem dL_law_1350 : decode cL_law 1350 = .ok (.if_icmp .eq 325, 3) := by decide +kernel
theorem dL_law_1353 : decode cL_law 1353 = .ok (.iconst 0, 1) := by decide +kernel
theorem dL_law_1354 : decode cL_law 1354 = .ok (.ireturn, 1) := by decide +kernel
theorem dL_law_1355 : decode cL_law 1355 = .ok (.aload_n 1, 1) := by decide +kernel
theorem dL_law_1356 : decode cL_law 1356 = .ok (.aload_n 0, 1) := by decide +kernel
theorem dL_law_1357 : decode cL_law 1357 = .ok (.iload_n 3, 1) := by decide +kernel
theorem dL_law_1358 : decode cL_law 1358 = .ok (.iconst 1, 1) := by decide +kernel
theorem dL_law_1359 : decode cL_law 1359 = .ok (.iadd, 1) := by decide +kernel
theorem dL_law_1360 : decode cL_law 1360 = .ok (.iaload, 1) := by decide +kernel
theorem dL_law_1361 : decode cL_law 1361 = .ok (.aload_n 0, 1) := by decide +kernel
theorem dL_law_1362 : decode cL_law 1362 = .ok (.iload_n 3, 1) := by decide +kernel
theorem dL_law_1363 : decode cL_law 1363 = .ok (.iconst 2, 1) := by decide +kernel
theorem dL_law_1364 : decode cL_law 1364 = .ok (.iadd, 1) := by decide +kernel
theorem dL_law_1365 : decode cL_law 1365 = .ok (.iaload, 1) := by decide +kernel
theorem dL_law_1366 : decode cL_law 1366 = .ok (.aload_n 0, 1) := by decide +kernel
theorem dL_law_1367 : decode cL_law 1367 = .ok (.iload_n 3, 1) := by decide +kernel
theorem dL_law_1368 : decode cL_law 1368 = .ok (.iconst 3, 1) := by decide +kernel
theorem dL_law_1369 : decode cL_law 1369 = .ok (.iadd, 1) := by decide +kernel
theorem dL_law_1370 : decode cL_law 1370 = .ok (.iaload, 1) := by decide +kernel
theorem dL_law_1371 : decode cL_law 1371 = .ok (.invokevirtual 163, 3) := by decide +kernel
theorem dL_law_1374 : decode cL_law 1374 = .ok (.aload_n 2, 1) := by decide +kernel
theorem dL_law_1375 : decode cL_law 1375 = .ok (.aload_n 0, 1) := by decide +kernel
theorem dL_law_1376 : decode cL_law 1376 = .ok (.iload_n 3, 1) := by decide +kernel
theorem dL_law_1377 : decode cL_law 1377 = .ok (.iconst 1, 1) := by decide +kernel
theorem dL_law_1378 : decode cL_law 1378 = .ok (.iadd, 1) := by decide +kernel
theorem dL_law_1379 : decode cL_law 1379 = .ok (.iaload, 1) := by decide +kernel
theorem dL_law_1380 : decode cL_law 1380 = .ok (.aload_n 0, 1) := by decide +kernel
theorem dL_law_1381 : decode cL_law 1381 = .ok (.iload_n 3, 1) := by decide +kernel
theorem dL_law_1382 : decode cL_law 1382 = .ok (.iconst 2, 1) := by decide +kernel
theorem dL_law_1383 : decode cL_law 1383 = .ok (.iadd, 1) := by decide +kernel
theorem dL_law_1384 : decode cL_law 1384 = .ok (.iaload, 1) := by decide +kernel
theorem dL_law_1385 : decode cL_law 1385 = .ok (.aload_n 0, 1) := by decide +kernel
theorem dL_law_1386 : decode cL_law 1386 = .ok (.iload_n 3, 1) := by decide +kernel
theorem dL_law_1387 : decode cL_law 1387 = .ok (.iconst 3, 1) := by decide +kernel
theorem dL_law_1388 : decode cL_law 1388 = .ok (.iadd, 1) := by decide +kernel
theorem dL_law_1389 : decode cL_law 1389 = .ok (.iaload, 1) := by decide +kernel
theorem dL_law_1390 : decode cL_law 1390 = .ok (.invokevirtual 166, 3) := by decide +kernel
theorem dL_law_1393 : decode cL_law 1393 = .ok (.if_icmp .eq 282, 3) := by decide +kernel
theorem dL_law_1396 : decode cL_law 1396 = .ok (.iconst 0, 1) := by decide +kernel
theorem dL_law_1397 : decode cL_law 1397 = .ok (.ireturn, 1) := by decide +kernel
theorem dL_law_1398 : decode cL_law 1398 = .ok (.aload_n 1, 1) := by decide +kernel
theorem dL_law_1399 : decode cL_law 1399 = .ok (.aload_n 0, 1) := by decide +kernel
theorem dL_law_1400 : decode cL_law 1400 = .ok (.iload_n 3, 1) := by decide +kernel
theorem dL_law_1401 : decode cL_law 1401 = .ok (.iconst 1, 1) := by decide +kernel
theorem dL_law_1402 : decode cL_law 1402 = .ok (.iadd, 1) := by decide +kernel
theorem dL_law_1403 : decode cL_law 1403 = .ok (.iaload, 1) := by decide +kernel
theorem dL_law_1404 : decode cL_law 1404 = .ok (.aload_n 0, 1) := by decide +kernel
theorem dL_law_1405 : decode cL_law 1405 = .ok (.iload_n 3, 1) := by decide +kernel
theorem dL_law_1406 : decode cL_law 1406 = .ok (.iconst 2, 1) := by decide +kernel
theorem dL_law_1407 : decode cL_law 1407 = .ok (.iadd, 1) := by decide +kernel
theorem dL_law_1408 : decode cL_law 1408 = .ok (.iaload, 1) := by decide +kernel
theorem dL_law_1409 : decode cL_law 1409 = .ok (.aload_n 0, 1) := by decide +kernel
theorem dL_law_1410 : decode cL_law 1410 = .ok (.iload_n 3, 1) := by decide +kernel
theorem dL_law_1411 : decode cL_law 1411 = .ok (.iconst 3, 1) := by decide +kernel
theorem dL_law_1412 : decode cL_law 1412 = .ok (.iadd, 1) := by decide +kernel
theorem dL_law_1413 : decode cL_law 1413 = .ok (.iaload, 1) := by decide +kernel
theorem dL_law_1414 : decode cL_law 1414 = .ok (.invokevirtual 167, 3) := by decide +kernel
theorem dL_law_1417 : decode cL_law 1417 = .ok (.aload_n 2, 1) := by decide +kernel
theorem dL_law_1418 : decode cL_law 1418 = .ok (.aload_n 0, 1) := by decide +kernel
theorem dL_law_1419 : decode cL_law 1419 = .ok (.iload_n 3, 1) := by decide +kernel
theorem dL_law_1420 : decode cL_law 1420 = .ok (.iconst 1, 1) := by decide +kernel
theorem dL_law_1421 : decode cL_law 1421 = .ok (.iadd, 1) := by decide +kernel
theorem dL_law_1422 : decode cL_law 1422 = .ok (.iaload, 1) := by decide +kernel
theorem dL_law_1423 : decode cL_law 1423 = .ok (.aload_n 0, 1) := by decide +kernel
theorem dL_law_1424 : decode cL_law 1424 = .ok (.iload_n 3, 1) := by decide +kernel
theorem dL_law_1425 : decode cL_law 1425 = .ok (.iconst 2, 1) := by decide +kernel
theorem dL_law_1426 : decode cL_law 1426 = .ok (.iadd, 1) := by decide +kernel
theorem dL_law_1427 : decode cL_law 1427 = .ok (.iaload, 1) := by decide +kernel
theorem dL_law_1428 : decode cL_law 1428 = .ok (.aload_n 0, 1) := by decide +kernel
theorem dL_law_1429 : decode cL_law 1429 = .ok (.iload_n 3, 1) := by decide +kernel

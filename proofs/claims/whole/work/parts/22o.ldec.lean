/-! the law: decode rows -/
theorem dL_law_1342 : decode code 1342 = .ok (.iload 4, 2) := by decide +kernel
theorem dL_law_1344 : decode code 1344 = .ok (.iconst 2, 1) := by decide +kernel
theorem dL_law_1345 : decode code 1345 = .ok (.iadd, 1) := by decide +kernel
theorem dL_law_1346 : decode code 1346 = .ok (.iaload, 1) := by decide +kernel
theorem dL_law_1347 : decode code 1347 = .ok (.aload_n 3, 1) := by decide +kernel
theorem dL_law_1348 : decode code 1348 = .ok (.invokestatic 162, 3) := by decide +kernel
theorem dL_law_1351 : decode code 1351 = .ok (.istore 5, 2) := by decide +kernel
theorem dL_law_1353 : decode code 1353 = .ok (.aload_n 2, 1) := by decide +kernel
theorem dL_law_1354 : decode code 1354 = .ok (.aload_n 0, 1) := by decide +kernel
theorem dL_law_1355 : decode code 1355 = .ok (.iload 4, 2) := by decide +kernel
theorem dL_law_1357 : decode code 1357 = .ok (.iconst 1, 1) := by decide +kernel
theorem dL_law_1358 : decode code 1358 = .ok (.iadd, 1) := by decide +kernel
theorem dL_law_1359 : decode code 1359 = .ok (.iaload, 1) := by decide +kernel
theorem dL_law_1360 : decode code 1360 = .ok (.aload_n 0, 1) := by decide +kernel
theorem dL_law_1361 : decode code 1361 = .ok (.iload 4, 2) := by decide +kernel
theorem dL_law_1363 : decode code 1363 = .ok (.iconst 2, 1) := by decide +kernel
theorem dL_law_1364 : decode code 1364 = .ok (.iadd, 1) := by decide +kernel
theorem dL_law_1365 : decode code 1365 = .ok (.iaload, 1) := by decide +kernel
theorem dL_law_1366 : decode code 1366 = .ok (.invokevirtual 167, 3) := by decide +kernel
theorem dL_law_1369 : decode code 1369 = .ok (.lstore 6, 2) := by decide +kernel
theorem dL_law_1371 : decode code 1371 = .ok (.aload_n 2, 1) := by decide +kernel
theorem dL_law_1372 : decode code 1372 = .ok (.invokevirtual 168, 3) := by decide +kernel
theorem dL_law_1375 : decode code 1375 = .ok (.iload 5, 2) := by decide +kernel
theorem dL_law_1377 : decode code 1377 = .ok (.if_icmp .eq 5, 3) := by decide +kernel
theorem dL_law_1380 : decode code 1380 = .ok (.iconst 0, 1) := by decide +kernel
theorem dL_law_1381 : decode code 1381 = .ok (.ireturn, 1) := by decide +kernel
theorem dL_law_1382 : decode code 1382 = .ok (.iload 5, 2) := by decide +kernel
theorem dL_law_1384 : decode code 1384 = .ok (.ifCond .ne 14, 3) := by decide +kernel
theorem dL_law_1387 : decode code 1387 = .ok (.aload_n 3, 1) := by decide +kernel
theorem dL_law_1388 : decode code 1388 = .ok (.iconst 0, 1) := by decide +kernel
theorem dL_law_1389 : decode code 1389 = .ok (.laload, 1) := by decide +kernel
theorem dL_law_1390 : decode code 1390 = .ok (.lload 6, 2) := by decide +kernel
theorem dL_law_1392 : decode code 1392 = .ok (.lcmp, 1) := by decide +kernel
theorem dL_law_1393 : decode code 1393 = .ok (.ifCond .eq 5, 3) := by decide +kernel
theorem dL_law_1396 : decode code 1396 = .ok (.iconst 0, 1) := by decide +kernel
theorem dL_law_1397 : decode code 1397 = .ok (.ireturn, 1) := by decide +kernel
theorem dL_law_1398 : decode code 1398 = .ok (.goto 126, 3) := by decide +kernel
theorem dL_law_1401 : decode code 1401 = .ok (.aload_n 1, 1) := by decide +kernel
theorem dL_law_1402 : decode code 1402 = .ok (.aload_n 0, 1) := by decide +kernel
theorem dL_law_1403 : decode code 1403 = .ok (.iload 4, 2) := by decide +kernel
theorem dL_law_1405 : decode code 1405 = .ok (.iconst 1, 1) := by decide +kernel
theorem dL_law_1406 : decode code 1406 = .ok (.iadd, 1) := by decide +kernel
theorem dL_law_1407 : decode code 1407 = .ok (.iaload, 1) := by decide +kernel
theorem dL_law_1408 : decode code 1408 = .ok (.aload_n 0, 1) := by decide +kernel
theorem dL_law_1409 : decode code 1409 = .ok (.iload 4, 2) := by decide +kernel
theorem dL_law_1411 : decode code 1411 = .ok (.iconst 2, 1) := by decide +kernel
theorem dL_law_1412 : decode code 1412 = .ok (.iadd, 1) := by decide +kernel
theorem dL_law_1413 : decode code 1413 = .ok (.iaload, 1) := by decide +kernel
theorem dL_law_1414 : decode code 1414 = .ok (.aload_n 0, 1) := by decide +kernel
theorem dL_law_1415 : decode code 1415 = .ok (.iload 4, 2) := by decide +kernel
theorem dL_law_1417 : decode code 1417 = .ok (.iconst 3, 1) := by decide +kernel
theorem dL_law_1418 : decode code 1418 = .ok (.iadd, 1) := by decide +kernel
theorem dL_law_1419 : decode code 1419 = .ok (.iaload, 1) := by decide +kernel
theorem dL_law_1420 : decode code 1420 = .ok (.aload_n 0, 1) := by decide +kernel
theorem dL_law_1421 : decode code 1421 = .ok (.iload 4, 2) := by decide +kernel
theorem dL_law_1423 : decode code 1423 = .ok (.iconst 4, 1) := by decide +kernel
theorem dL_law_1424 : decode code 1424 = .ok (.iadd, 1) := by decide +kernel
theorem dL_law_1425 : decode code 1425 = .ok (.iaload, 1) := by decide +kernel
theorem dL_law_1426 : decode code 1426 = .ok (.aload_n 0, 1) := by decide +kernel
theorem dL_law_1427 : decode code 1427 = .ok (.iload 4, 2) := by decide +kernel

/-! the law: decode rows -/
theorem dL_law_1429 : decode code 1429 = .ok (.iconst 5, 1) := by decide +kernel
theorem dL_law_1430 : decode code 1430 = .ok (.iadd, 1) := by decide +kernel
theorem dL_law_1431 : decode code 1431 = .ok (.iaload, 1) := by decide +kernel
theorem dL_law_1432 : decode code 1432 = .ok (.invokevirtual 171, 3) := by decide +kernel
theorem dL_law_1435 : decode code 1435 = .ok (.aload_n 2, 1) := by decide +kernel
theorem dL_law_1436 : decode code 1436 = .ok (.aload_n 0, 1) := by decide +kernel
theorem dL_law_1437 : decode code 1437 = .ok (.iload 4, 2) := by decide +kernel
theorem dL_law_1439 : decode code 1439 = .ok (.iconst 1, 1) := by decide +kernel
theorem dL_law_1440 : decode code 1440 = .ok (.iadd, 1) := by decide +kernel
theorem dL_law_1441 : decode code 1441 = .ok (.iaload, 1) := by decide +kernel
theorem dL_law_1442 : decode code 1442 = .ok (.aload_n 0, 1) := by decide +kernel
theorem dL_law_1443 : decode code 1443 = .ok (.iload 4, 2) := by decide +kernel
theorem dL_law_1445 : decode code 1445 = .ok (.iconst 2, 1) := by decide +kernel
theorem dL_law_1446 : decode code 1446 = .ok (.iadd, 1) := by decide +kernel
theorem dL_law_1447 : decode code 1447 = .ok (.iaload, 1) := by decide +kernel
theorem dL_law_1448 : decode code 1448 = .ok (.aload_n 0, 1) := by decide +kernel
theorem dL_law_1449 : decode code 1449 = .ok (.iload 4, 2) := by decide +kernel
theorem dL_law_1451 : decode code 1451 = .ok (.iconst 3, 1) := by decide +kernel
theorem dL_law_1452 : decode code 1452 = .ok (.iadd, 1) := by decide +kernel
theorem dL_law_1453 : decode code 1453 = .ok (.iaload, 1) := by decide +kernel
theorem dL_law_1454 : decode code 1454 = .ok (.aload_n 0, 1) := by decide +kernel
theorem dL_law_1455 : decode code 1455 = .ok (.iload 4, 2) := by decide +kernel
theorem dL_law_1457 : decode code 1457 = .ok (.iconst 4, 1) := by decide +kernel
theorem dL_law_1458 : decode code 1458 = .ok (.iadd, 1) := by decide +kernel
theorem dL_law_1459 : decode code 1459 = .ok (.iaload, 1) := by decide +kernel
theorem dL_law_1460 : decode code 1460 = .ok (.aload_n 0, 1) := by decide +kernel
theorem dL_law_1461 : decode code 1461 = .ok (.iload 4, 2) := by decide +kernel
theorem dL_law_1463 : decode code 1463 = .ok (.iconst 5, 1) := by decide +kernel
theorem dL_law_1464 : decode code 1464 = .ok (.iadd, 1) := by decide +kernel
theorem dL_law_1465 : decode code 1465 = .ok (.iaload, 1) := by decide +kernel
theorem dL_law_1466 : decode code 1466 = .ok (.invokevirtual 175, 3) := by decide +kernel
theorem dL_law_1469 : decode code 1469 = .ok (.if_icmp .eq 55, 3) := by decide +kernel
theorem dL_law_1472 : decode code 1472 = .ok (.iconst 0, 1) := by decide +kernel
theorem dL_law_1473 : decode code 1473 = .ok (.ireturn, 1) := by decide +kernel
theorem dL_law_1474 : decode code 1474 = .ok (.aload_n 1, 1) := by decide +kernel
theorem dL_law_1475 : decode code 1475 = .ok (.aload_n 0, 1) := by decide +kernel
theorem dL_law_1476 : decode code 1476 = .ok (.iload 4, 2) := by decide +kernel
theorem dL_law_1478 : decode code 1478 = .ok (.iconst 1, 1) := by decide +kernel
theorem dL_law_1479 : decode code 1479 = .ok (.iadd, 1) := by decide +kernel
theorem dL_law_1480 : decode code 1480 = .ok (.iaload, 1) := by decide +kernel
theorem dL_law_1481 : decode code 1481 = .ok (.invokevirtual 176, 3) := by decide +kernel
theorem dL_law_1484 : decode code 1484 = .ok (.aload_n 2, 1) := by decide +kernel
theorem dL_law_1485 : decode code 1485 = .ok (.aload_n 0, 1) := by decide +kernel
theorem dL_law_1486 : decode code 1486 = .ok (.iload 4, 2) := by decide +kernel
theorem dL_law_1488 : decode code 1488 = .ok (.iconst 1, 1) := by decide +kernel
theorem dL_law_1489 : decode code 1489 = .ok (.iadd, 1) := by decide +kernel
theorem dL_law_1490 : decode code 1490 = .ok (.iaload, 1) := by decide +kernel
theorem dL_law_1491 : decode code 1491 = .ok (.invokevirtual 179, 3) := by decide +kernel
theorem dL_law_1494 : decode code 1494 = .ok (.if_icmp .eq 30, 3) := by decide +kernel
theorem dL_law_1497 : decode code 1497 = .ok (.iconst 0, 1) := by decide +kernel
theorem dL_law_1498 : decode code 1498 = .ok (.ireturn, 1) := by decide +kernel
theorem dL_law_1499 : decode code 1499 = .ok (.aload_n 1, 1) := by decide +kernel
theorem dL_law_1500 : decode code 1500 = .ok (.aload_n 0, 1) := by decide +kernel
theorem dL_law_1501 : decode code 1501 = .ok (.iload 4, 2) := by decide +kernel
theorem dL_law_1503 : decode code 1503 = .ok (.iconst 1, 1) := by decide +kernel
theorem dL_law_1504 : decode code 1504 = .ok (.iadd, 1) := by decide +kernel
theorem dL_law_1505 : decode code 1505 = .ok (.iaload, 1) := by decide +kernel
theorem dL_law_1506 : decode code 1506 = .ok (.invokevirtual 180, 3) := by decide +kernel
theorem dL_law_1509 : decode code 1509 = .ok (.aload_n 2, 1) := by decide +kernel
theorem dL_law_1510 : decode code 1510 = .ok (.aload_n 0, 1) := by decide +kernel

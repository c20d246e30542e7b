set_option maxRecDepth 20000 in
theorem dL_law_1426 : decode cL_law 1426 = .ok (.iadd, 1) := by decide +kernel
set_option maxRecDepth 20000 in
theorem dL_law_1427 : decode cL_law 1427 = .ok (.iaload, 1) := by decide +kernel
set_option maxRecDepth 20000 in
theorem dL_law_1428 : decode cL_law 1428 = .ok (.invokevirtual 174, 3) := by decide +kernel
set_option maxRecDepth 20000 in
theorem dL_law_1431 : decode cL_law 1431 = .ok (.if_icmp .eq 113, 3) := by decide +kernel
set_option maxRecDepth 20000 in
theorem dL_law_1434 : decode cL_law 1434 = .ok (.iconst 0, 1) := by decide +kernel
set_option maxRecDepth 20000 in
theorem dL_law_1435 : decode cL_law 1435 = .ok (.ireturn, 1) := by decide +kernel
set_option maxRecDepth 20000 in
theorem dL_law_1436 : decode cL_law 1436 = .ok (.aload_n 1, 1) := by decide +kernel
set_option maxRecDepth 20000 in
theorem dL_law_1437 : decode cL_law 1437 = .ok (.aload_n 0, 1) := by decide +kernel
set_option maxRecDepth 20000 in
theorem dL_law_1438 : decode cL_law 1438 = .ok (.iload_n 3, 1) := by decide +kernel
set_option maxRecDepth 20000 in
theorem dL_law_1439 : decode cL_law 1439 = .ok (.iconst 1, 1) := by decide +kernel
set_option maxRecDepth 20000 in
theorem dL_law_1440 : decode cL_law 1440 = .ok (.iadd, 1) := by decide +kernel
set_option maxRecDepth 20000 in
theorem dL_law_1441 : decode cL_law 1441 = .ok (.iaload, 1) := by decide +kernel
set_option maxRecDepth 20000 in
theorem dL_law_1442 : decode cL_law 1442 = .ok (.invokevirtual 175, 3) := by decide +kernel
set_option maxRecDepth 20000 in
theorem dL_law_1445 : decode cL_law 1445 = .ok (.aload_n 2, 1) := by decide +kernel
set_option maxRecDepth 20000 in
theorem dL_law_1446 : decode cL_law 1446 = .ok (.aload_n 0, 1) := by decide +kernel
set_option maxRecDepth 20000 in
theorem dL_law_1447 : decode cL_law 1447 = .ok (.iload_n 3, 1) := by decide +kernel
set_option maxRecDepth 20000 in
theorem dL_law_1448 : decode cL_law 1448 = .ok (.iconst 1, 1) := by decide +kernel
set_option maxRecDepth 20000 in
theorem dL_law_1449 : decode cL_law 1449 = .ok (.iadd, 1) := by decide +kernel
set_option maxRecDepth 20000 in
theorem dL_law_1450 : decode cL_law 1450 = .ok (.iaload, 1) := by decide +kernel
set_option maxRecDepth 20000 in
theorem dL_law_1451 : decode cL_law 1451 = .ok (.invokevirtual 178, 3) := by decide +kernel
set_option maxRecDepth 20000 in
theorem dL_law_1454 : decode cL_law 1454 = .ok (.if_icmp .eq 90, 3) := by decide +kernel
set_option maxRecDepth 20000 in
theorem dL_law_1457 : decode cL_law 1457 = .ok (.iconst 0, 1) := by decide +kernel
set_option maxRecDepth 20000 in
theorem dL_law_1458 : decode cL_law 1458 = .ok (.ireturn, 1) := by decide +kernel
set_option maxRecDepth 20000 in
theorem dL_law_1459 : decode cL_law 1459 = .ok (.aload_n 1, 1) := by decide +kernel
set_option maxRecDepth 20000 in
theorem dL_law_1460 : decode cL_law 1460 = .ok (.invokevirtual 179, 3) := by decide +kernel
set_option maxRecDepth 20000 in
theorem dL_law_1463 : decode cL_law 1463 = .ok (.aload_n 2, 1) := by decide +kernel
set_option maxRecDepth 20000 in
theorem dL_law_1464 : decode cL_law 1464 = .ok (.invokevirtual 182, 3) := by decide +kernel
set_option maxRecDepth 20000 in
theorem dL_law_1467 : decode cL_law 1467 = .ok (.if_icmp .eq 77, 3) := by decide +kernel
set_option maxRecDepth 20000 in
theorem dL_law_1470 : decode cL_law 1470 = .ok (.iconst 0, 1) := by decide +kernel
set_option maxRecDepth 20000 in
theorem dL_law_1471 : decode cL_law 1471 = .ok (.ireturn, 1) := by decide +kernel
set_option maxRecDepth 20000 in
theorem dL_law_1472 : decode cL_law 1472 = .ok (.aload_n 1, 1) := by decide +kernel
set_option maxRecDepth 20000 in
theorem dL_law_1473 : decode cL_law 1473 = .ok (.invokevirtual 183, 3) := by decide +kernel
set_option maxRecDepth 20000 in
theorem dL_law_1476 : decode cL_law 1476 = .ok (.aload_n 2, 1) := by decide +kernel
set_option maxRecDepth 20000 in
theorem dL_law_1477 : decode cL_law 1477 = .ok (.invokevirtual 186, 3) := by decide +kernel
set_option maxRecDepth 20000 in
theorem dL_law_1480 : decode cL_law 1480 = .ok (.if_icmp .eq 64, 3) := by decide +kernel
set_option maxRecDepth 20000 in
theorem dL_law_1483 : decode cL_law 1483 = .ok (.iconst 0, 1) := by decide +kernel
set_option maxRecDepth 20000 in
theorem dL_law_1484 : decode cL_law 1484 = .ok (.ireturn, 1) := by decide +kernel
set_option maxRecDepth 20000 in
theorem dL_law_1485 : decode cL_law 1485 = .ok (.aload_n 1, 1) := by decide +kernel
set_option maxRecDepth 20000 in
theorem dL_law_1486 : decode cL_law 1486 = .ok (.invokevirtual 187, 3) := by decide +kernel
set_option maxRecDepth 20000 in
theorem dL_law_1489 : decode cL_law 1489 = .ok (.aload_n 2, 1) := by decide +kernel
set_option maxRecDepth 20000 in
theorem dL_law_1490 : decode cL_law 1490 = .ok (.invokevirtual 190, 3) := by decide +kernel
set_option maxRecDepth 20000 in
theorem dL_law_1493 : decode cL_law 1493 = .ok (.if_icmp .eq 51, 3) := by decide +kernel
set_option maxRecDepth 20000 in
theorem dL_law_1496 : decode cL_law 1496 = .ok (.iconst 0, 1) := by decide +kernel
set_option maxRecDepth 20000 in
theorem dL_law_1497 : decode cL_law 1497 = .ok (.ireturn, 1) := by decide +kernel
set_option maxRecDepth 20000 in
theorem dL_law_1498 : decode cL_law 1498 = .ok (.aload_n 1, 1) := by decide +kernel
set_option maxRecDepth 20000 in
theorem dL_law_1499 : decode cL_law 1499 = .ok (.aload_n 0, 1) := by decide +kernel
set_option maxRecDepth 20000 in
theorem dL_law_1500 : decode cL_law 1500 = .ok (.iload_n 3, 1) := by decide +kernel
set_option maxRecDepth 20000 in
theorem dL_law_1501 : decode cL_law 1501 = .ok (.iconst 1, 1) := by decide +kernel
set_option maxRecDepth 20000 in
theorem dL_law_1502 : decode cL_law 1502 = .ok (.iadd, 1) := by decide +kernel
set_option maxRecDepth 20000 in
theorem dL_law_1503 : decode cL_law 1503 = .ok (.iaload, 1) := by decide +kernel
set_option maxRecDepth 20000 in
theorem dL_law_1504 : decode cL_law 1504 = .ok (.invokevirtual 191, 3) := by decide +kernel
set_option maxRecDepth 20000 in
theorem dL_law_1507 : decode cL_law 1507 = .ok (.aload_n 2, 1) := by decide +kernel
set_option maxRecDepth 20000 in
theorem dL_law_1508 : decode cL_law 1508 = .ok (.aload_n 0, 1) := by decide +kernel
set_option maxRecDepth 20000 in
theorem dL_law_1509 : decode cL_law 1509 = .ok (.iload_n 3, 1) := by decide +kernel
set_option maxRecDepth 20000 in
theorem dL_law_1510 : decode cL_law 1510 = .ok (.iconst 1, 1) := by decide +kernel
set_option maxRecDepth 20000 in
theorem dL_law_1511 : decode cL_law 1511 = .ok (.iadd, 1) := by decide +kernel
set_option maxRecDepth 20000 in
theorem dL_law_1512 : decode cL_law 1512 = .ok (.iaload, 1) := by decide +kernel
set_option maxRecDepth 20000 in
theorem dL_law_1513 : decode cL_law 1513 = .ok (.invokevirtual 194, 3) := by decide +kernel
set_option maxRecDepth 20000 in
theorem dL_law_1516 : decode cL_law 1516 = .ok (.if_icmp .eq 28, 3) := by decide +kernel
set_option maxRecDepth 20000 in
theorem dL_law_1519 : decode cL_law 1519 = .ok (.iconst 0, 1) := by decide +kernel
set_option maxRecDepth 20000 in
theorem dL_law_1520 : decode cL_law 1520 = .ok (.ireturn, 1) := by decide +kernel
set_option maxRecDepth 20000 in
theorem dL_law_1521 : decode cL_law 1521 = .ok (.aload_n 1, 1) := by decide +kernel
set_option maxRecDepth 20000 in
theorem dL_law_1522 : decode cL_law 1522 = .ok (.aload_n 0, 1) := by decide +kernel
set_option maxRecDepth 20000 in
theorem dL_law_1523 : decode cL_law 1523 = .ok (.iload_n 3, 1) := by decide +kernel
set_option maxRecDepth 20000 in
theorem dL_law_1524 : decode cL_law 1524 = .ok (.iconst 1, 1) := by decide +kernel
set_option maxRecDepth 20000 in
theorem dL_law_1525 : decode cL_law 1525 = .ok (.iadd, 1) := by decide +kernel
set_option maxRecDepth 20000 in
theorem dL_law_1526 : decode cL_law 1526 = .ok (.iaload, 1) := by decide +kernel
set_option maxRecDepth 20000 in
theorem dL_law_1527 : decode cL_law 1527 = .ok (.invokevirtual 195, 3) := by decide +kernel
set_option maxRecDepth 20000 in
theorem dL_law_1530 : decode cL_law 1530 = .ok (.aload_n 2, 1) := by decide +kernel
set_option maxRecDepth 20000 in
theorem dL_law_1531 : decode cL_law 1531 = .ok (.aload_n 0, 1) := by decide +kernel
set_option maxRecDepth 20000 in
theorem dL_law_1532 : decode cL_law 1532 = .ok (.iload_n 3, 1) := by decide +kernel
set_option maxRecDepth 20000 in
theorem dL_law_1533 : decode cL_law 1533 = .ok (.iconst 1, 1) := by decide +kernel
set_option maxRecDepth 20000 in
theorem dL_law_1534 : decode cL_law 1534 = .ok (.iadd, 1) := by decide +kernel
set_option maxRecDepth 20000 in
theorem dL_law_1535 : decode cL_law 1535 = .ok (.iaload, 1) := by decide +kernel
set_option maxRecDepth 20000 in
theorem dL_law_1536 : decode cL_law 1536 = .ok (.invokevirtual 198, 3) := by decide +kernel
set_option maxRecDepth 20000 in
theorem dL_law_1539 : decode cL_law 1539 = .ok (.if_icmp .eq 5, 3) := by decide +kernel
set_option maxRecDepth 20000 in
theorem dL_law_1542 : decode cL_law 1542 = .ok (.iconst 0, 1) := by decide +kernel
set_option maxRecDepth 20000 in
theorem dL_law_1543 : decode cL_law 1543 = .ok (.ireturn, 1) := by decide +kernel
set_option maxRecDepth 20000 in
theorem dL_law_1544 : decode cL_law 1544 = .ok (.iinc 3 6, 3) := by decide +kernel
set_option maxRecDepth 20000 in
theorem dL_law_1547 : decode cL_law 1547 = .ok (.goto (-1529), 3) := by decide +kernel
set_option maxRecDepth 20000 in
theorem dL_law_1550 : decode cL_law 1550 = .ok (.iconst 1, 1) := by decide +kernel
set_option maxRecDepth 20000 in
theorem dL_law_1551 : decode cL_law 1551 = .ok (.ireturn, 1) := by decide +kernel

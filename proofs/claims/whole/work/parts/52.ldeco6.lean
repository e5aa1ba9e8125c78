theorem d_W_law_1428 : decode b_W_law 1428 = .ok (.iadd, 1) := by decide +kernel
theorem d_W_law_1429 : decode b_W_law 1429 = .ok (.iaload, 1) := by decide +kernel
theorem d_W_law_1430 : decode b_W_law 1430 = .ok (.aload_n 3, 1) := by decide +kernel
theorem d_W_law_1431 : decode b_W_law 1431 = .ok (.invokestatic 157, 3) := by decide +kernel
theorem d_W_law_1434 : decode b_W_law 1434 = .ok (.istore 5, 2) := by decide +kernel
theorem d_W_law_1436 : decode b_W_law 1436 = .ok (.aload_n 2, 1) := by decide +kernel
theorem d_W_law_1437 : decode b_W_law 1437 = .ok (.aload_n 0, 1) := by decide +kernel
theorem d_W_law_1438 : decode b_W_law 1438 = .ok (.iload 4, 2) := by decide +kernel
theorem d_W_law_1440 : decode b_W_law 1440 = .ok (.iconst 1, 1) := by decide +kernel
theorem d_W_law_1441 : decode b_W_law 1441 = .ok (.iadd, 1) := by decide +kernel
theorem d_W_law_1442 : decode b_W_law 1442 = .ok (.iaload, 1) := by decide +kernel
theorem d_W_law_1443 : decode b_W_law 1443 = .ok (.aload_n 0, 1) := by decide +kernel
theorem d_W_law_1444 : decode b_W_law 1444 = .ok (.iload 4, 2) := by decide +kernel
theorem d_W_law_1446 : decode b_W_law 1446 = .ok (.iconst 2, 1) := by decide +kernel
theorem d_W_law_1447 : decode b_W_law 1447 = .ok (.iadd, 1) := by decide +kernel
theorem d_W_law_1448 : decode b_W_law 1448 = .ok (.iaload, 1) := by decide +kernel
theorem d_W_law_1449 : decode b_W_law 1449 = .ok (.invokevirtual 160, 3) := by decide +kernel
theorem d_W_law_1452 : decode b_W_law 1452 = .ok (.istore 6, 2) := by decide +kernel
theorem d_W_law_1454 : decode b_W_law 1454 = .ok (.aload_n 2, 1) := by decide +kernel
theorem d_W_law_1455 : decode b_W_law 1455 = .ok (.invokevirtual 90, 3) := by decide +kernel
theorem d_W_law_1458 : decode b_W_law 1458 = .ok (.iload 5, 2) := by decide +kernel
theorem d_W_law_1460 : decode b_W_law 1460 = .ok (.if_icmp .eq 5, 3) := by decide +kernel
theorem d_W_law_1463 : decode b_W_law 1463 = .ok (.iconst 0, 1) := by decide +kernel
theorem d_W_law_1464 : decode b_W_law 1464 = .ok (.ireturn, 1) := by decide +kernel
theorem d_W_law_1465 : decode b_W_law 1465 = .ok (.iload 5, 2) := by decide +kernel
theorem d_W_law_1467 : decode b_W_law 1467 = .ok (.ifCond .ne 15, 3) := by decide +kernel
theorem d_W_law_1470 : decode b_W_law 1470 = .ok (.aload_n 3, 1) := by decide +kernel
theorem d_W_law_1471 : decode b_W_law 1471 = .ok (.iconst 0, 1) := by decide +kernel
theorem d_W_law_1472 : decode b_W_law 1472 = .ok (.laload, 1) := by decide +kernel
theorem d_W_law_1473 : decode b_W_law 1473 = .ok (.iload 6, 2) := by decide +kernel
theorem d_W_law_1475 : decode b_W_law 1475 = .ok (.i2l, 1) := by decide +kernel
theorem d_W_law_1476 : decode b_W_law 1476 = .ok (.lcmp, 1) := by decide +kernel
theorem d_W_law_1477 : decode b_W_law 1477 = .ok (.ifCond .eq 5, 3) := by decide +kernel
theorem d_W_law_1480 : decode b_W_law 1480 = .ok (.iconst 0, 1) := by decide +kernel
theorem d_W_law_1481 : decode b_W_law 1481 = .ok (.ireturn, 1) := by decide +kernel
theorem d_W_law_1482 : decode b_W_law 1482 = .ok (.goto 3, 3) := by decide +kernel
theorem d_W_law_1485 : decode b_W_law 1485 = .ok (.iinc 4 6, 3) := by decide +kernel
theorem d_W_law_1488 : decode b_W_law 1488 = .ok (.goto (-1465), 3) := by decide +kernel

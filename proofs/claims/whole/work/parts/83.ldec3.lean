theorem dL_law_1394 : decode code 1394 = .ok (.aload_n 1, 1) := by decide +kernel
theorem dL_law_1395 : decode code 1395 = .ok (.aload_n 0, 1) := by decide +kernel
theorem dL_law_1396 : decode code 1396 = .ok (.iload 4, 2) := by decide +kernel
theorem dL_law_1398 : decode code 1398 = .ok (.iconst 1, 1) := by decide +kernel
theorem dL_law_1399 : decode code 1399 = .ok (.iadd, 1) := by decide +kernel
theorem dL_law_1400 : decode code 1400 = .ok (.iaload, 1) := by decide +kernel
theorem dL_law_1401 : decode code 1401 = .ok (.aload_n 3, 1) := by decide +kernel
theorem dL_law_1402 : decode code 1402 = .ok (.invokestatic 157, 3) := by decide +kernel
theorem dL_law_1405 : decode code 1405 = .ok (.istore 5, 2) := by decide +kernel
theorem dL_law_1407 : decode code 1407 = .ok (.aload_n 2, 1) := by decide +kernel
theorem dL_law_1408 : decode code 1408 = .ok (.aload_n 0, 1) := by decide +kernel
theorem dL_law_1409 : decode code 1409 = .ok (.iload 4, 2) := by decide +kernel
theorem dL_law_1411 : decode code 1411 = .ok (.iconst 1, 1) := by decide +kernel
theorem dL_law_1412 : decode code 1412 = .ok (.iadd, 1) := by decide +kernel
theorem dL_law_1413 : decode code 1413 = .ok (.iaload, 1) := by decide +kernel
theorem dL_law_1414 : decode code 1414 = .ok (.invokevirtual 159, 3) := by decide +kernel
theorem dL_law_1417 : decode code 1417 = .ok (.istore 6, 2) := by decide +kernel
theorem dL_law_1419 : decode code 1419 = .ok (.aload_n 2, 1) := by decide +kernel
theorem dL_law_1420 : decode code 1420 = .ok (.invokevirtual 89, 3) := by decide +kernel
theorem dL_law_1423 : decode code 1423 = .ok (.iload 5, 2) := by decide +kernel
theorem dL_law_1425 : decode code 1425 = .ok (.if_icmp .eq 5, 3) := by decide +kernel
theorem dL_law_1430 : decode code 1430 = .ok (.iload 5, 2) := by decide +kernel
theorem dL_law_1432 : decode code 1432 = .ok (.ifCond .ne 15, 3) := by decide +kernel
theorem dL_law_1435 : decode code 1435 = .ok (.aload_n 3, 1) := by decide +kernel
theorem dL_law_1436 : decode code 1436 = .ok (.iconst 0, 1) := by decide +kernel
theorem dL_law_1437 : decode code 1437 = .ok (.laload, 1) := by decide +kernel
theorem dL_law_1438 : decode code 1438 = .ok (.iload 6, 2) := by decide +kernel
theorem dL_law_1440 : decode code 1440 = .ok (.i2l, 1) := by decide +kernel
theorem dL_law_1441 : decode code 1441 = .ok (.lcmp, 1) := by decide +kernel
theorem dL_law_1442 : decode code 1442 = .ok (.ifCond .eq 5, 3) := by decide +kernel
theorem dL_law_1447 : decode code 1447 = .ok (.goto 255, 3) := by decide +kernel
theorem dL_law_1450 : decode code 1450 = .ok (.aload_n 1, 1) := by decide +kernel
theorem dL_law_1451 : decode code 1451 = .ok (.aload_n 0, 1) := by decide +kernel
theorem dL_law_1452 : decode code 1452 = .ok (.iload 4, 2) := by decide +kernel
theorem dL_law_1454 : decode code 1454 = .ok (.iconst 1, 1) := by decide +kernel
theorem dL_law_1455 : decode code 1455 = .ok (.iadd, 1) := by decide +kernel
theorem dL_law_1456 : decode code 1456 = .ok (.iaload, 1) := by decide +kernel
theorem dL_law_1457 : decode code 1457 = .ok (.aload_n 3, 1) := by decide +kernel
theorem dL_law_1458 : decode code 1458 = .ok (.invokestatic 160, 3) := by decide +kernel
theorem dL_law_1461 : decode code 1461 = .ok (.istore 5, 2) := by decide +kernel
theorem dL_law_1463 : decode code 1463 = .ok (.aload_n 2, 1) := by decide +kernel
theorem dL_law_1464 : decode code 1464 = .ok (.aload_n 0, 1) := by decide +kernel
theorem dL_law_1465 : decode code 1465 = .ok (.iload 4, 2) := by decide +kernel
theorem dL_law_1467 : decode code 1467 = .ok (.iconst 1, 1) := by decide +kernel
theorem dL_law_1468 : decode code 1468 = .ok (.iadd, 1) := by decide +kernel
theorem dL_law_1469 : decode code 1469 = .ok (.iaload, 1) := by decide +kernel
theorem dL_law_1470 : decode code 1470 = .ok (.invokevirtual 162, 3) := by decide +kernel
theorem dL_law_1473 : decode code 1473 = .ok (.istore 6, 2) := by decide +kernel
theorem dL_law_1475 : decode code 1475 = .ok (.aload_n 2, 1) := by decide +kernel
theorem dL_law_1476 : decode code 1476 = .ok (.invokevirtual 89, 3) := by decide +kernel
theorem dL_law_1479 : decode code 1479 = .ok (.iload 5, 2) := by decide +kernel
theorem dL_law_1481 : decode code 1481 = .ok (.if_icmp .eq 5, 3) := by decide +kernel
theorem dL_law_1486 : decode code 1486 = .ok (.iload 5, 2) := by decide +kernel
theorem dL_law_1488 : decode code 1488 = .ok (.ifCond .ne 15, 3) := by decide +kernel
theorem dL_law_1491 : decode code 1491 = .ok (.aload_n 3, 1) := by decide +kernel
theorem dL_law_1492 : decode code 1492 = .ok (.iconst 0, 1) := by decide +kernel
theorem dL_law_1493 : decode code 1493 = .ok (.laload, 1) := by decide +kernel
theorem dL_law_1494 : decode code 1494 = .ok (.iload 6, 2) := by decide +kernel
theorem dL_law_1496 : decode code 1496 = .ok (.i2l, 1) := by decide +kernel
theorem dL_law_1497 : decode code 1497 = .ok (.lcmp, 1) := by decide +kernel
theorem dL_law_1498 : decode code 1498 = .ok (.ifCond .eq 5, 3) := by decide +kernel
theorem dL_law_1503 : decode code 1503 = .ok (.goto 199, 3) := by decide +kernel
theorem dL_law_1506 : decode code 1506 = .ok (.aload_n 1, 1) := by decide +kernel
theorem dL_law_1507 : decode code 1507 = .ok (.aload_n 0, 1) := by decide +kernel
theorem dL_law_1508 : decode code 1508 = .ok (.iload 4, 2) := by decide +kernel
theorem dL_law_1510 : decode code 1510 = .ok (.iconst 1, 1) := by decide +kernel
theorem dL_law_1511 : decode code 1511 = .ok (.iadd, 1) := by decide +kernel
theorem dL_law_1512 : decode code 1512 = .ok (.iaload, 1) := by decide +kernel
theorem dL_law_1513 : decode code 1513 = .ok (.aload_n 0, 1) := by decide +kernel
theorem dL_law_1514 : decode code 1514 = .ok (.iload 4, 2) := by decide +kernel
theorem dL_law_1516 : decode code 1516 = .ok (.iconst 2, 1) := by decide +kernel
theorem dL_law_1517 : decode code 1517 = .ok (.iadd, 1) := by decide +kernel
theorem dL_law_1518 : decode code 1518 = .ok (.iaload, 1) := by decide +kernel
theorem dL_law_1519 : decode code 1519 = .ok (.aload_n 0, 1) := by decide +kernel
theorem dL_law_1520 : decode code 1520 = .ok (.iload 4, 2) := by decide +kernel
theorem dL_law_1522 : decode code 1522 = .ok (.iconst 3, 1) := by decide +kernel
theorem dL_law_1523 : decode code 1523 = .ok (.iadd, 1) := by decide +kernel
theorem dL_law_1524 : decode code 1524 = .ok (.iaload, 1) := by decide +kernel
theorem dL_law_1525 : decode code 1525 = .ok (.aload_n 0, 1) := by decide +kernel
theorem dL_law_1526 : decode code 1526 = .ok (.iload 4, 2) := by decide +kernel
theorem dL_law_1528 : decode code 1528 = .ok (.iconst 4, 1) := by decide +kernel
theorem dL_law_1529 : decode code 1529 = .ok (.iadd, 1) := by decide +kernel
theorem dL_law_1530 : decode code 1530 = .ok (.iaload, 1) := by decide +kernel
theorem dL_law_1531 : decode code 1531 = .ok (.aload_n 3, 1) := by decide +kernel
theorem dL_law_1532 : decode code 1532 = .ok (.invokestatic 163, 3) := by decide +kernel
theorem dL_law_1535 : decode code 1535 = .ok (.istore 5, 2) := by decide +kernel
theorem dL_law_1537 : decode code 1537 = .ok (.aload_n 2, 1) := by decide +kernel
theorem dL_law_1538 : decode code 1538 = .ok (.aload_n 0, 1) := by decide +kernel
theorem dL_law_1539 : decode code 1539 = .ok (.iload 4, 2) := by decide +kernel
theorem dL_law_1541 : decode code 1541 = .ok (.iconst 1, 1) := by decide +kernel
theorem dL_law_1542 : decode code 1542 = .ok (.iadd, 1) := by decide +kernel
theorem dL_law_1543 : decode code 1543 = .ok (.iaload, 1) := by decide +kernel
theorem dL_law_1544 : decode code 1544 = .ok (.aload_n 0, 1) := by decide +kernel
theorem dL_law_1545 : decode code 1545 = .ok (.iload 4, 2) := by decide +kernel
theorem dL_law_1547 : decode code 1547 = .ok (.iconst 2, 1) := by decide +kernel
theorem dL_law_1548 : decode code 1548 = .ok (.iadd, 1) := by decide +kernel
theorem dL_law_1549 : decode code 1549 = .ok (.iaload, 1) := by decide +kernel
theorem dL_law_1550 : decode code 1550 = .ok (.aload_n 0, 1) := by decide +kernel
theorem dL_law_1551 : decode code 1551 = .ok (.iload 4, 2) := by decide +kernel
theorem dL_law_1553 : decode code 1553 = .ok (.iconst 3, 1) := by decide +kernel
theorem dL_law_1554 : decode code 1554 = .ok (.iadd, 1) := by decide +kernel
theorem dL_law_1555 : decode code 1555 = .ok (.iaload, 1) := by decide +kernel
theorem dL_law_1556 : decode code 1556 = .ok (.aload_n 0, 1) := by decide +kernel
theorem dL_law_1557 : decode code 1557 = .ok (.iload 4, 2) := by decide +kernel
theorem dL_law_1559 : decode code 1559 = .ok (.iconst 4, 1) := by decide +kernel
theorem dL_law_1560 : decode code 1560 = .ok (.iadd, 1) := by decide +kernel
theorem dL_law_1561 : decode code 1561 = .ok (.iaload, 1) := by decide +kernel
theorem dL_law_1562 : decode code 1562 = .ok (.invokevirtual 166, 3) := by decide +kernel
theorem dL_law_1565 : decode code 1565 = .ok (.istore 6, 2) := by decide +kernel
theorem dL_law_1567 : decode code 1567 = .ok (.aload_n 2, 1) := by decide +kernel
theorem dL_law_1568 : decode code 1568 = .ok (.invokevirtual 89, 3) := by decide +kernel
theorem dL_law_1571 : decode code 1571 = .ok (.iload 5, 2) := by decide +kernel
theorem dL_law_1573 : decode code 1573 = .ok (.if_icmp .eq 5, 3) := by decide +kernel
theorem dL_law_1578 : decode code 1578 = .ok (.iload 5, 2) := by decide +kernel
theorem dL_law_1580 : decode code 1580 = .ok (.ifCond .ne 15, 3) := by decide +kernel
theorem dL_law_1583 : decode code 1583 = .ok (.aload_n 3, 1) := by decide +kernel
theorem dL_law_1584 : decode code 1584 = .ok (.iconst 0, 1) := by decide +kernel
theorem dL_law_1585 : decode code 1585 = .ok (.laload, 1) := by decide +kernel
theorem dL_law_1586 : decode code 1586 = .ok (.iload 6, 2) := by decide +kernel
theorem dL_law_1588 : decode code 1588 = .ok (.i2l, 1) := by decide +kernel
theorem dL_law_1589 : decode code 1589 = .ok (.lcmp, 1) := by decide +kernel
theorem dL_law_1590 : decode code 1590 = .ok (.ifCond .eq 5, 3) := by decide +kernel
theorem dL_law_1595 : decode code 1595 = .ok (.goto 107, 3) := by decide +kernel
theorem dL_law_1598 : decode code 1598 = .ok (.aload_n 1, 1) := by decide +kernel
theorem dL_law_1599 : decode code 1599 = .ok (.aload_n 0, 1) := by decide +kernel
theorem dL_law_1600 : decode code 1600 = .ok (.iload 4, 2) := by decide +kernel
theorem dL_law_1602 : decode code 1602 = .ok (.iconst 1, 1) := by decide +kernel
theorem dL_law_1603 : decode code 1603 = .ok (.iadd, 1) := by decide +kernel
theorem dL_law_1604 : decode code 1604 = .ok (.iaload, 1) := by decide +kernel
theorem dL_law_1605 : decode code 1605 = .ok (.aload_n 0, 1) := by decide +kernel
theorem dL_law_1606 : decode code 1606 = .ok (.iload 4, 2) := by decide +kernel
theorem dL_law_1608 : decode code 1608 = .ok (.iconst 2, 1) := by decide +kernel
theorem dL_law_1609 : decode code 1609 = .ok (.iadd, 1) := by decide +kernel
theorem dL_law_1610 : decode code 1610 = .ok (.iaload, 1) := by decide +kernel
theorem dL_law_1611 : decode code 1611 = .ok (.aload_n 0, 1) := by decide +kernel
theorem dL_law_1612 : decode code 1612 = .ok (.iload 4, 2) := by decide +kernel
theorem dL_law_1614 : decode code 1614 = .ok (.iconst 3, 1) := by decide +kernel
theorem dL_law_1615 : decode code 1615 = .ok (.iadd, 1) := by decide +kernel
theorem dL_law_1616 : decode code 1616 = .ok (.iaload, 1) := by decide +kernel
theorem dL_law_1617 : decode code 1617 = .ok (.aload_n 3, 1) := by decide +kernel
theorem dL_law_1618 : decode code 1618 = .ok (.invokestatic 167, 3) := by decide +kernel
theorem dL_law_1621 : decode code 1621 = .ok (.istore 5, 2) := by decide +kernel
theorem dL_law_1623 : decode code 1623 = .ok (.aload_n 2, 1) := by decide +kernel
theorem dL_law_1624 : decode code 1624 = .ok (.aload_n 0, 1) := by decide +kernel
theorem dL_law_1625 : decode code 1625 = .ok (.iload 4, 2) := by decide +kernel
theorem dL_law_1627 : decode code 1627 = .ok (.iconst 1, 1) := by decide +kernel
theorem dL_law_1628 : decode code 1628 = .ok (.iadd, 1) := by decide +kernel
theorem dL_law_1629 : decode code 1629 = .ok (.iaload, 1) := by decide +kernel
theorem dL_law_1630 : decode code 1630 = .ok (.aload_n 0, 1) := by decide +kernel
theorem dL_law_1631 : decode code 1631 = .ok (.iload 4, 2) := by decide +kernel
theorem dL_law_1633 : decode code 1633 = .ok (.iconst 2, 1) := by decide +kernel
theorem dL_law_1634 : decode code 1634 = .ok (.iadd, 1) := by decide +kernel
theorem dL_law_1635 : decode code 1635 = .ok (.iaload, 1) := by decide +kernel
theorem dL_law_1636 : decode code 1636 = .ok (.aload_n 0, 1) := by decide +kernel
theorem dL_law_1637 : decode code 1637 = .ok (.iload 4, 2) := by decide +kernel
theorem dL_law_1639 : decode code 1639 = .ok (.iconst 3, 1) := by decide +kernel
theorem dL_law_1640 : decode code 1640 = .ok (.iadd, 1) := by decide +kernel
theorem dL_law_1641 : decode code 1641 = .ok (.iaload, 1) := by decide +kernel
theorem dL_law_1642 : decode code 1642 = .ok (.invokevirtual 169, 3) := by decide +kernel
theorem dL_law_1645 : decode code 1645 = .ok (.istore 6, 2) := by decide +kernel
theorem dL_law_1647 : decode code 1647 = .ok (.aload_n 2, 1) := by decide +kernel
theorem dL_law_1648 : decode code 1648 = .ok (.invokevirtual 89, 3) := by decide +kernel
theorem dL_law_1651 : decode code 1651 = .ok (.iload 5, 2) := by decide +kernel
theorem dL_law_1653 : decode code 1653 = .ok (.if_icmp .eq 5, 3) := by decide +kernel
theorem dL_law_1658 : decode code 1658 = .ok (.iload 5, 2) := by decide +kernel
theorem dL_law_1660 : decode code 1660 = .ok (.ifCond .ne 15, 3) := by decide +kernel
theorem dL_law_1663 : decode code 1663 = .ok (.aload_n 3, 1) := by decide +kernel
theorem dL_law_1664 : decode code 1664 = .ok (.iconst 0, 1) := by decide +kernel
theorem dL_law_1665 : decode code 1665 = .ok (.laload, 1) := by decide +kernel
theorem dL_law_1666 : decode code 1666 = .ok (.iload 6, 2) := by decide +kernel
theorem dL_law_1668 : decode code 1668 = .ok (.i2l, 1) := by decide +kernel
theorem dL_law_1669 : decode code 1669 = .ok (.lcmp, 1) := by decide +kernel
theorem dL_law_1670 : decode code 1670 = .ok (.ifCond .eq 5, 3) := by decide +kernel
theorem dL_law_1675 : decode code 1675 = .ok (.goto 27, 3) := by decide +kernel
theorem dL_law_1678 : decode code 1678 = .ok (.aload_n 1, 1) := by decide +kernel
theorem dL_law_1679 : decode code 1679 = .ok (.invokevirtual 170, 3) := by decide +kernel
theorem dL_law_1682 : decode code 1682 = .ok (.aload_n 2, 1) := by decide +kernel
theorem dL_law_1683 : decode code 1683 = .ok (.invokevirtual 173, 3) := by decide +kernel
theorem dL_law_1686 : decode code 1686 = .ok (.goto 16, 3) := by decide +kernel
theorem dL_law_1689 : decode code 1689 = .ok (.aload_n 1, 1) := by decide +kernel
theorem dL_law_1690 : decode code 1690 = .ok (.invokevirtual 174, 3) := by decide +kernel
theorem dL_law_1693 : decode code 1693 = .ok (.aload_n 2, 1) := by decide +kernel
theorem dL_law_1694 : decode code 1694 = .ok (.invokevirtual 178, 3) := by decide +kernel
theorem dL_law_1697 : decode code 1697 = .ok (.if_icmp .eq 5, 3) := by decide +kernel
theorem dL_law_1702 : decode code 1702 = .ok (.iinc 4 6, 3) := by decide +kernel
theorem dL_law_1705 : decode code 1705 = .ok (.goto (-1682), 3) := by decide +kernel
theorem dL_law_1708 : decode code 1708 = .ok (.iconst 1, 1) := by decide +kernel
theorem dL_law_1709 : decode code 1709 = .ok (.ireturn, 1) := by decide +kernel
theorem mw_X11_fault : jmw yX11_fault cX11_fault 1 (some .int) 0 := ⟨wd567, wd103, by decide +kernel⟩
theorem mw_X11_feed : jmw yX11_feed cX11_feed 6 (some .int) 5 := ⟨wd559, wd103, by decide +kernel⟩
theorem mw_X11_image : jmw yX11_image cX11_image 1 none 0 := ⟨wd667, wd103, by decide +kernel⟩
theorem mw_X11_judge : jmw yX11_judge cX11_judge 5 (some .int) 4 := ⟨wd646, wd103, by decide +kernel⟩
theorem mw_X11_lease : jmw yX11_lease cX11_lease 6 (some .int) 4 := ⟨wd571, wd103, by decide +kernel⟩
theorem mw_X11_offer : jmw yX11_offer cX11_offer 4 (some .int) 3 := ⟨wd658, wd103, by decide +kernel⟩
theorem mw_X11_restore : jmw yX11_restore cX11_restore 1 (some .boolean) 0 := ⟨wd683, wd103, by decide +kernel⟩
theorem mw_X11_undo : jmw yX11_undo cX11_undo 1 (some .int) 0 := ⟨wd650, wd103, by decide +kernel⟩
theorem mw_X12_birthday : jmw yX12_birthday cX12_birthday 4 (some .int) 1 := ⟨wd1944, wd116, by decide +kernel⟩
theorem mw_X12_both : jmw yX12_both cX12_both 13 (some .int) 4 := ⟨wd1948, wd116, by decide +kernel⟩
theorem mw_X12_count : jmw yX12_count cX12_count 2 (some .int) 1 := ⟨wd1758, wd116, by decide +kernel⟩
theorem mw_X12_cuckoo : jmw yX12_cuckoo cX12_cuckoo 8 (some .int) 2 := ⟨wd1884, wd116, by decide +kernel⟩
theorem mw_X12_fault : jmw yX12_fault cX12_fault 1 (some .int) 0 := ⟨wd1754, wd116, by decide +kernel⟩
theorem mw_X12_feed : jmw yX12_feed cX12_feed 6 (some .int) 5 := ⟨wd1627, wd116, by decide +kernel⟩
theorem mw_X12_house4 : jmw yX12_house4 cX12_house4 9 (some .int) 2 := ⟨wd1869, wd116, by decide +kernel⟩
theorem mw_X12_housed : jmw yX12_housed cX12_housed 2 (some .int) 1 := ⟨wd1880, wd116, by decide +kernel⟩
theorem mw_X12_house : jmw yX12_house cX12_house 2 (some .int) 1 := ⟨wd1635, wd116, by decide +kernel⟩
theorem mw_X12_image : jmw yX12_image cX12_image 1 none 0 := ⟨wd1957, wd116, by decide +kernel⟩
theorem mw_X12_in : jmw yX12_in cX12_in 3 (some .int) 2 := ⟨wd1825, wd116, by decide +kernel⟩
theorem mw_X12_judge : jmw yX12_judge cX12_judge 5 (some .int) 4 := ⟨wd1805, wd116, by decide +kernel⟩
theorem mw_X12_lease : jmw yX12_lease cX12_lease 6 (some .int) 4 := ⟨wd1765, wd116, by decide +kernel⟩
theorem mw_X12_offer : jmw yX12_offer cX12_offer 4 (some .int) 3 := ⟨wd1927, wd116, by decide +kernel⟩
theorem mw_X12_rent : jmw yX12_rent cX12_rent 2 (some .int) 1 := ⟨wd1915, wd116, by decide +kernel⟩
theorem mw_X12_restore : jmw yX12_restore cX12_restore 1 (some .boolean) 0 := ⟨wd1961, wd116, by decide +kernel⟩
theorem mw_X12_shared : jmw yX12_shared cX12_shared 13 (some .int) 2 := ⟨wd1923, wd116, by decide +kernel⟩
theorem mw_X12_slowBy : jmw yX12_slowBy cX12_slowBy 5 (some .int) 2 := ⟨wd1861, wd116, by decide +kernel⟩
theorem mw_X12_slow : jmw yX12_slow cX12_slow 4 (some .int) 3 := ⟨wd1853, wd116, by decide +kernel⟩
theorem mw_X12_sublet : jmw yX12_sublet cX12_sublet 10 (some .int) 1 := ⟨wd1931, wd116, by decide +kernel⟩
theorem mw_X12_swing : jmw yX12_swing cX12_swing 3 (some .int) 2 := ⟨wd1833, wd116, by decide +kernel⟩
theorem mw_X12_tenant : jmw yX12_tenant cX12_tenant 3 (some .int) 2 := ⟨wd1813, wd116, by decide +kernel⟩
theorem mw_X12_thrown : jmw yX12_thrown cX12_thrown 1 (some .int) 0 := ⟨wd1623, wd116, by decide +kernel⟩
theorem mw_X12_undo : jmw yX12_undo cX12_undo 1 (some .int) 0 := ⟨wd1809, wd116, by decide +kernel⟩
theorem mw_X12_visits : jmw yX12_visits cX12_visits 4 (some .int) 2 := ⟨wd1895, wd116, by decide +kernel⟩
theorem mw_X12_visit : jmw yX12_visit cX12_visit 2 (some .int) 1 := ⟨wd1911, wd116, by decide +kernel⟩
theorem mw_X12_wedding : jmw yX12_wedding cX12_wedding 4 (some .int) 1 := ⟨wd1940, wd116, by decide +kernel⟩
theorem mw_X12_wind : jmw yX12_wind cX12_wind 8 (some .int) 3 := ⟨wd1952, wd116, by decide +kernel⟩

theorem dX5_init_1344 : decode cX5_init 1344 = .ok (.sipush 190, 3) := by decide +kernel
theorem dX5_init_1347 : decode cX5_init 1347 = .ok (.sipush 1003, 3) := by decide +kernel
theorem dX5_init_1350 : decode cX5_init 1350 = .ok (.iastore, 1) := by decide +kernel
theorem dX5_init_1351 : decode cX5_init 1351 = .ok (.dup, 1) := by decide +kernel
theorem dX5_init_1352 : decode cX5_init 1352 = .ok (.sipush 191, 3) := by decide +kernel
theorem dX5_init_1355 : decode cX5_init 1355 = .ok (.sipush 3160, 3) := by decide +kernel
theorem dX5_init_1358 : decode cX5_init 1358 = .ok (.iastore, 1) := by decide +kernel
theorem dX5_init_1359 : decode cX5_init 1359 = .ok (.dup, 1) := by decide +kernel
theorem dX5_init_1360 : decode cX5_init 1360 = .ok (.sipush 192, 3) := by decide +kernel
theorem dX5_init_1363 : decode cX5_init 1363 = .ok (.sipush 1000, 3) := by decide +kernel
theorem dX5_init_1366 : decode cX5_init 1366 = .ok (.iastore, 1) := by decide +kernel
theorem dX5_init_1367 : decode cX5_init 1367 = .ok (.dup, 1) := by decide +kernel
theorem dX5_init_1368 : decode cX5_init 1368 = .ok (.sipush 193, 3) := by decide +kernel
theorem dX5_init_1371 : decode cX5_init 1371 = .ok (.sipush 3161, 3) := by decide +kernel
theorem dX5_init_1374 : decode cX5_init 1374 = .ok (.iastore, 1) := by decide +kernel
theorem dX5_init_1375 : decode cX5_init 1375 = .ok (.dup, 1) := by decide +kernel
theorem dX5_init_1376 : decode cX5_init 1376 = .ok (.sipush 194, 3) := by decide +kernel
theorem dX5_init_1379 : decode cX5_init 1379 = .ok (.sipush 1000, 3) := by decide +kernel
theorem dX5_init_1382 : decode cX5_init 1382 = .ok (.iastore, 1) := by decide +kernel
theorem dX5_init_1383 : decode cX5_init 1383 = .ok (.dup, 1) := by decide +kernel
theorem dX5_init_1384 : decode cX5_init 1384 = .ok (.sipush 195, 3) := by decide +kernel
theorem dX5_init_1387 : decode cX5_init 1387 = .ok (.sipush 1368, 3) := by decide +kernel
theorem dX5_init_1390 : decode cX5_init 1390 = .ok (.iastore, 1) := by decide +kernel
theorem dX5_init_1391 : decode cX5_init 1391 = .ok (.dup, 1) := by decide +kernel
theorem dX5_init_1392 : decode cX5_init 1392 = .ok (.sipush 196, 3) := by decide +kernel
theorem dX5_init_1395 : decode cX5_init 1395 = .ok (.sipush 255, 3) := by decide +kernel
theorem dX5_init_1398 : decode cX5_init 1398 = .ok (.iastore, 1) := by decide +kernel
theorem dX5_init_1399 : decode cX5_init 1399 = .ok (.dup, 1) := by decide +kernel
theorem dX5_init_1400 : decode cX5_init 1400 = .ok (.sipush 197, 3) := by decide +kernel
theorem dX5_init_1403 : decode cX5_init 1403 = .ok (.sipush 1007, 3) := by decide +kernel
theorem dX5_init_1406 : decode cX5_init 1406 = .ok (.iastore, 1) := by decide +kernel
theorem dX5_init_1407 : decode cX5_init 1407 = .ok (.dup, 1) := by decide +kernel
theorem dX5_init_1408 : decode cX5_init 1408 = .ok (.sipush 198, 3) := by decide +kernel
theorem dX5_init_1411 : decode cX5_init 1411 = .ok (.sipush 3162, 3) := by decide +kernel
theorem dX5_init_1414 : decode cX5_init 1414 = .ok (.iastore, 1) := by decide +kernel
theorem dX5_init_1415 : decode cX5_init 1415 = .ok (.dup, 1) := by decide +kernel
theorem dX5_init_1416 : decode cX5_init 1416 = .ok (.sipush 199, 3) := by decide +kernel
theorem dX5_init_1419 : decode cX5_init 1419 = .ok (.sipush 1000, 3) := by decide +kernel
theorem dX5_init_1422 : decode cX5_init 1422 = .ok (.iastore, 1) := by decide +kernel
theorem dX5_init_1423 : decode cX5_init 1423 = .ok (.dup, 1) := by decide +kernel
theorem dX5_init_1424 : decode cX5_init 1424 = .ok (.sipush 200, 3) := by decide +kernel
theorem dX5_init_1427 : decode cX5_init 1427 = .ok (.bipush 99, 2) := by decide +kernel
theorem dX5_init_1429 : decode cX5_init 1429 = .ok (.iastore, 1) := by decide +kernel
theorem dX5_init_1430 : decode cX5_init 1430 = .ok (.dup, 1) := by decide +kernel
theorem dX5_init_1431 : decode cX5_init 1431 = .ok (.sipush 201, 3) := by decide +kernel
theorem dX5_init_1434 : decode cX5_init 1434 = .ok (.sipush 1003, 3) := by decide +kernel
theorem dX5_init_1437 : decode cX5_init 1437 = .ok (.iastore, 1) := by decide +kernel
theorem dX5_init_1438 : decode cX5_init 1438 = .ok (.dup, 1) := by decide +kernel
theorem dX5_init_1439 : decode cX5_init 1439 = .ok (.sipush 202, 3) := by decide +kernel
theorem dX5_init_1442 : decode cX5_init 1442 = .ok (.sipush 3163, 3) := by decide +kernel
theorem dX5_init_1445 : decode cX5_init 1445 = .ok (.iastore, 1) := by decide +kernel
theorem dX5_init_1446 : decode cX5_init 1446 = .ok (.dup, 1) := by decide +kernel
theorem dX5_init_1447 : decode cX5_init 1447 = .ok (.sipush 203, 3) := by decide +kernel
theorem dX5_init_1450 : decode cX5_init 1450 = .ok (.sipush 1000, 3) := by decide +kernel
theorem dX5_init_1453 : decode cX5_init 1453 = .ok (.iastore, 1) := by decide +kernel
theorem dX5_init_1454 : decode cX5_init 1454 = .ok (.dup, 1) := by decide +kernel
theorem dX5_init_1455 : decode cX5_init 1455 = .ok (.sipush 204, 3) := by decide +kernel
theorem dX5_init_1458 : decode cX5_init 1458 = .ok (.sipush 2162, 3) := by decide +kernel
theorem dX5_init_1461 : decode cX5_init 1461 = .ok (.iastore, 1) := by decide +kernel
theorem dX5_init_1462 : decode cX5_init 1462 = .ok (.dup, 1) := by decide +kernel
theorem dX5_init_1463 : decode cX5_init 1463 = .ok (.sipush 205, 3) := by decide +kernel
theorem dX5_init_1466 : decode cX5_init 1466 = .ok (.iconst 1, 1) := by decide +kernel
theorem dX5_init_1467 : decode cX5_init 1467 = .ok (.iastore, 1) := by decide +kernel
theorem dX5_init_1468 : decode cX5_init 1468 = .ok (.dup, 1) := by decide +kernel
theorem dX5_init_1469 : decode cX5_init 1469 = .ok (.sipush 206, 3) := by decide +kernel
theorem dX5_init_1472 : decode cX5_init 1472 = .ok (.sipush 1209, 3) := by decide +kernel
theorem dX5_init_1475 : decode cX5_init 1475 = .ok (.iastore, 1) := by decide +kernel
theorem dX5_init_1476 : decode cX5_init 1476 = .ok (.dup, 1) := by decide +kernel
theorem dX5_init_1477 : decode cX5_init 1477 = .ok (.sipush 207, 3) := by decide +kernel
theorem dX5_init_1480 : decode cX5_init 1480 = .ok (.sipush 1003, 3) := by decide +kernel
theorem dX5_init_1483 : decode cX5_init 1483 = .ok (.iastore, 1) := by decide +kernel
theorem dX5_init_1484 : decode cX5_init 1484 = .ok (.dup, 1) := by decide +kernel
theorem dX5_init_1485 : decode cX5_init 1485 = .ok (.sipush 208, 3) := by decide +kernel
theorem dX5_init_1488 : decode cX5_init 1488 = .ok (.sipush 3180, 3) := by decide +kernel
theorem dX5_init_1491 : decode cX5_init 1491 = .ok (.iastore, 1) := by decide +kernel
theorem dX5_init_1492 : decode cX5_init 1492 = .ok (.dup, 1) := by decide +kernel
theorem dX5_init_1493 : decode cX5_init 1493 = .ok (.sipush 209, 3) := by decide +kernel
theorem dX5_init_1496 : decode cX5_init 1496 = .ok (.sipush 1000, 3) := by decide +kernel
theorem dX5_init_1499 : decode cX5_init 1499 = .ok (.iastore, 1) := by decide +kernel
theorem dX5_init_1500 : decode cX5_init 1500 = .ok (.dup, 1) := by decide +kernel
theorem dX5_init_1501 : decode cX5_init 1501 = .ok (.sipush 210, 3) := by decide +kernel
theorem dX5_init_1504 : decode cX5_init 1504 = .ok (.sipush 1209, 3) := by decide +kernel
theorem dX5_init_1507 : decode cX5_init 1507 = .ok (.iastore, 1) := by decide +kernel
theorem dX5_init_1508 : decode cX5_init 1508 = .ok (.dup, 1) := by decide +kernel
theorem dX5_init_1509 : decode cX5_init 1509 = .ok (.sipush 211, 3) := by decide +kernel
theorem dX5_init_1512 : decode cX5_init 1512 = .ok (.iconst 1, 1) := by decide +kernel
theorem dX5_init_1513 : decode cX5_init 1513 = .ok (.iastore, 1) := by decide +kernel
theorem dX5_init_1514 : decode cX5_init 1514 = .ok (.dup, 1) := by decide +kernel
theorem dX5_init_1515 : decode cX5_init 1515 = .ok (.sipush 212, 3) := by decide +kernel
theorem dX5_init_1518 : decode cX5_init 1518 = .ok (.sipush 1004, 3) := by decide +kernel
theorem dX5_init_1521 : decode cX5_init 1521 = .ok (.iastore, 1) := by decide +kernel
theorem dX5_init_1522 : decode cX5_init 1522 = .ok (.dup, 1) := by decide +kernel
theorem dX5_init_1523 : decode cX5_init 1523 = .ok (.sipush 213, 3) := by decide +kernel
theorem dX5_init_1526 : decode cX5_init 1526 = .ok (.sipush 3181, 3) := by decide +kernel
theorem dX5_init_1529 : decode cX5_init 1529 = .ok (.iastore, 1) := by decide +kernel
theorem dX5_init_1530 : decode cX5_init 1530 = .ok (.dup, 1) := by decide +kernel
theorem dX5_init_1531 : decode cX5_init 1531 = .ok (.sipush 214, 3) := by decide +kernel
theorem dX5_init_1534 : decode cX5_init 1534 = .ok (.sipush 1000, 3) := by decide +kernel
theorem dX5_init_1537 : decode cX5_init 1537 = .ok (.iastore, 1) := by decide +kernel
theorem dX5_init_1538 : decode cX5_init 1538 = .ok (.dup, 1) := by decide +kernel
theorem dX5_init_1539 : decode cX5_init 1539 = .ok (.sipush 215, 3) := by decide +kernel
theorem dX5_init_1542 : decode cX5_init 1542 = .ok (.sipush 1202, 3) := by decide +kernel
theorem dX5_init_1545 : decode cX5_init 1545 = .ok (.iastore, 1) := by decide +kernel
theorem dX5_init_1546 : decode cX5_init 1546 = .ok (.dup, 1) := by decide +kernel
theorem dX5_init_1547 : decode cX5_init 1547 = .ok (.sipush 216, 3) := by decide +kernel
theorem dX5_init_1550 : decode cX5_init 1550 = .ok (.iconst 2, 1) := by decide +kernel
theorem dX5_init_1551 : decode cX5_init 1551 = .ok (.iastore, 1) := by decide +kernel
theorem dX5_init_1552 : decode cX5_init 1552 = .ok (.dup, 1) := by decide +kernel
theorem dX5_init_1553 : decode cX5_init 1553 = .ok (.sipush 217, 3) := by decide +kernel
theorem dX5_init_1556 : decode cX5_init 1556 = .ok (.sipush 1101, 3) := by decide +kernel
theorem dX5_init_1559 : decode cX5_init 1559 = .ok (.iastore, 1) := by decide +kernel
theorem dX5_init_1560 : decode cX5_init 1560 = .ok (.dup, 1) := by decide +kernel
theorem dX5_init_1561 : decode cX5_init 1561 = .ok (.sipush 218, 3) := by decide +kernel
theorem dX5_init_1564 : decode cX5_init 1564 = .ok (.sipush 1003, 3) := by decide +kernel
theorem dX5_init_1567 : decode cX5_init 1567 = .ok (.iastore, 1) := by decide +kernel
theorem dX5_init_1568 : decode cX5_init 1568 = .ok (.dup, 1) := by decide +kernel
theorem dX5_init_1569 : decode cX5_init 1569 = .ok (.sipush 219, 3) := by decide +kernel
theorem dX5_init_1572 : decode cX5_init 1572 = .ok (.sipush 3190, 3) := by decide +kernel
theorem dX5_init_1575 : decode cX5_init 1575 = .ok (.iastore, 1) := by decide +kernel
theorem dX5_init_1576 : decode cX5_init 1576 = .ok (.dup, 1) := by decide +kernel
theorem dX5_init_1577 : decode cX5_init 1577 = .ok (.sipush 220, 3) := by decide +kernel
theorem dX5_init_1580 : decode cX5_init 1580 = .ok (.sipush 1000, 3) := by decide +kernel
theorem dX5_init_1583 : decode cX5_init 1583 = .ok (.iastore, 1) := by decide +kernel
theorem dX5_init_1584 : decode cX5_init 1584 = .ok (.dup, 1) := by decide +kernel
theorem dX5_init_1585 : decode cX5_init 1585 = .ok (.sipush 221, 3) := by decide +kernel
theorem dX5_init_1588 : decode cX5_init 1588 = .ok (.sipush 1110, 3) := by decide +kernel
theorem dX5_init_1591 : decode cX5_init 1591 = .ok (.iastore, 1) := by decide +kernel
theorem dX5_init_1592 : decode cX5_init 1592 = .ok (.dup, 1) := by decide +kernel
theorem dX5_init_1593 : decode cX5_init 1593 = .ok (.sipush 222, 3) := by decide +kernel
theorem dX5_init_1596 : decode cX5_init 1596 = .ok (.iconst 2, 1) := by decide +kernel
theorem dX5_init_1597 : decode cX5_init 1597 = .ok (.iastore, 1) := by decide +kernel
theorem dX5_init_1598 : decode cX5_init 1598 = .ok (.dup, 1) := by decide +kernel
theorem dX5_init_1599 : decode cX5_init 1599 = .ok (.sipush 223, 3) := by decide +kernel
theorem dX5_init_1602 : decode cX5_init 1602 = .ok (.sipush 1005, 3) := by decide +kernel
theorem dX5_init_1605 : decode cX5_init 1605 = .ok (.iastore, 1) := by decide +kernel
theorem dX5_init_1606 : decode cX5_init 1606 = .ok (.dup, 1) := by decide +kernel
theorem dX5_init_1607 : decode cX5_init 1607 = .ok (.sipush 224, 3) := by decide +kernel
theorem dX5_init_1610 : decode cX5_init 1610 = .ok (.sipush 3200, 3) := by decide +kernel
theorem dX5_init_1613 : decode cX5_init 1613 = .ok (.iastore, 1) := by decide +kernel
theorem dX5_init_1614 : decode cX5_init 1614 = .ok (.dup, 1) := by decide +kernel
theorem dX5_init_1615 : decode cX5_init 1615 = .ok (.sipush 225, 3) := by decide +kernel
theorem dX5_init_1618 : decode cX5_init 1618 = .ok (.sipush 1002, 3) := by decide +kernel
theorem dX5_init_1621 : decode cX5_init 1621 = .ok (.iastore, 1) := by decide +kernel
theorem dX5_init_1622 : decode cX5_init 1622 = .ok (.dup, 1) := by decide +kernel
theorem dX5_init_1623 : decode cX5_init 1623 = .ok (.sipush 226, 3) := by decide +kernel
theorem dX5_init_1626 : decode cX5_init 1626 = .ok (.sipush 1000, 3) := by decide +kernel
theorem dX5_init_1629 : decode cX5_init 1629 = .ok (.iastore, 1) := by decide +kernel
theorem dX5_init_1630 : decode cX5_init 1630 = .ok (.dup, 1) := by decide +kernel
theorem dX5_init_1631 : decode cX5_init 1631 = .ok (.sipush 227, 3) := by decide +kernel
theorem dX5_init_1634 : decode cX5_init 1634 = .ok (.sipush 1003, 3) := by decide +kernel
theorem dX5_init_1637 : decode cX5_init 1637 = .ok (.iastore, 1) := by decide +kernel
theorem dX5_init_1638 : decode cX5_init 1638 = .ok (.dup, 1) := by decide +kernel
theorem dX5_init_1639 : decode cX5_init 1639 = .ok (.sipush 228, 3) := by decide +kernel
theorem dX5_init_1642 : decode cX5_init 1642 = .ok (.sipush 3201, 3) := by decide +kernel
theorem dX5_init_1645 : decode cX5_init 1645 = .ok (.iastore, 1) := by decide +kernel
theorem dX5_init_1646 : decode cX5_init 1646 = .ok (.dup, 1) := by decide +kernel
theorem dX5_init_1647 : decode cX5_init 1647 = .ok (.sipush 229, 3) := by decide +kernel
theorem dX5_init_1650 : decode cX5_init 1650 = .ok (.sipush 1000, 3) := by decide +kernel
theorem dX5_init_1653 : decode cX5_init 1653 = .ok (.iastore, 1) := by decide +kernel
theorem dX5_init_1654 : decode cX5_init 1654 = .ok (.dup, 1) := by decide +kernel
theorem dX5_init_1655 : decode cX5_init 1655 = .ok (.sipush 230, 3) := by decide +kernel
theorem dX5_init_1658 : decode cX5_init 1658 = .ok (.sipush 1367, 3) := by decide +kernel
theorem dX5_init_1661 : decode cX5_init 1661 = .ok (.iastore, 1) := by decide +kernel
theorem dX5_init_1662 : decode cX5_init 1662 = .ok (.dup, 1) := by decide +kernel
theorem dX5_init_1663 : decode cX5_init 1663 = .ok (.sipush 231, 3) := by decide +kernel
theorem dX5_init_1666 : decode cX5_init 1666 = .ok (.sipush 1000, 3) := by decide +kernel
theorem dX5_init_1669 : decode cX5_init 1669 = .ok (.iastore, 1) := by decide +kernel
theorem dX5_init_1670 : decode cX5_init 1670 = .ok (.dup, 1) := by decide +kernel
theorem dX5_init_1671 : decode cX5_init 1671 = .ok (.sipush 232, 3) := by decide +kernel
theorem dX5_init_1674 : decode cX5_init 1674 = .ok (.sipush 2200, 3) := by decide +kernel
theorem dX5_init_1677 : decode cX5_init 1677 = .ok (.iastore, 1) := by decide +kernel
theorem dX5_init_1678 : decode cX5_init 1678 = .ok (.dup, 1) := by decide +kernel
theorem dX5_init_1679 : decode cX5_init 1679 = .ok (.sipush 233, 3) := by decide +kernel
theorem dX5_init_1682 : decode cX5_init 1682 = .ok (.sipush 1003, 3) := by decide +kernel
theorem dX5_init_1685 : decode cX5_init 1685 = .ok (.iastore, 1) := by decide +kernel
theorem dX5_init_1686 : decode cX5_init 1686 = .ok (.dup, 1) := by decide +kernel
theorem dX5_init_1687 : decode cX5_init 1687 = .ok (.sipush 234, 3) := by decide +kernel
theorem dX5_init_1690 : decode cX5_init 1690 = .ok (.sipush 3202, 3) := by decide +kernel
theorem dX5_init_1693 : decode cX5_init 1693 = .ok (.iastore, 1) := by decide +kernel
theorem dX5_init_1694 : decode cX5_init 1694 = .ok (.dup, 1) := by decide +kernel
theorem dX5_init_1695 : decode cX5_init 1695 = .ok (.sipush 235, 3) := by decide +kernel
theorem dX5_init_1698 : decode cX5_init 1698 = .ok (.sipush 1000, 3) := by decide +kernel
theorem dX5_init_1701 : decode cX5_init 1701 = .ok (.iastore, 1) := by decide +kernel
theorem dX5_init_1702 : decode cX5_init 1702 = .ok (.dup, 1) := by decide +kernel
theorem dX5_init_1703 : decode cX5_init 1703 = .ok (.sipush 236, 3) := by decide +kernel
theorem dX5_init_1706 : decode cX5_init 1706 = .ok (.sipush 1338, 3) := by decide +kernel
theorem dX5_init_1709 : decode cX5_init 1709 = .ok (.iastore, 1) := by decide +kernel
theorem dX5_init_1710 : decode cX5_init 1710 = .ok (.dup, 1) := by decide +kernel
theorem dX5_init_1711 : decode cX5_init 1711 = .ok (.sipush 237, 3) := by decide +kernel
theorem dX5_init_1714 : decode cX5_init 1714 = .ok (.sipush 1000, 3) := by decide +kernel
theorem dX5_init_1717 : decode cX5_init 1717 = .ok (.iastore, 1) := by decide +kernel
theorem dX5_init_1718 : decode cX5_init 1718 = .ok (.dup, 1) := by decide +kernel
theorem dX5_init_1719 : decode cX5_init 1719 = .ok (.sipush 238, 3) := by decide +kernel
theorem dX5_init_1722 : decode cX5_init 1722 = .ok (.sipush 1202, 3) := by decide +kernel
theorem dX5_init_1725 : decode cX5_init 1725 = .ok (.iastore, 1) := by decide +kernel
theorem dX5_init_1726 : decode cX5_init 1726 = .ok (.dup, 1) := by decide +kernel
theorem dX5_init_1727 : decode cX5_init 1727 = .ok (.sipush 239, 3) := by decide +kernel
theorem dX5_init_1730 : decode cX5_init 1730 = .ok (.sipush 1003, 3) := by decide +kernel
theorem dX5_init_1733 : decode cX5_init 1733 = .ok (.iastore, 1) := by decide +kernel
theorem dX5_init_1734 : decode cX5_init 1734 = .ok (.dup, 1) := by decide +kernel
theorem dX5_init_1735 : decode cX5_init 1735 = .ok (.sipush 240, 3) := by decide +kernel
theorem dX5_init_1738 : decode cX5_init 1738 = .ok (.sipush 3204, 3) := by decide +kernel
theorem dX5_init_1741 : decode cX5_init 1741 = .ok (.iastore, 1) := by decide +kernel
theorem dX5_init_1742 : decode cX5_init 1742 = .ok (.dup, 1) := by decide +kernel
theorem dX5_init_1743 : decode cX5_init 1743 = .ok (.sipush 241, 3) := by decide +kernel
theorem dX5_init_1746 : decode cX5_init 1746 = .ok (.sipush 1000, 3) := by decide +kernel
theorem dX5_init_1749 : decode cX5_init 1749 = .ok (.iastore, 1) := by decide +kernel
theorem dX5_init_1750 : decode cX5_init 1750 = .ok (.dup, 1) := by decide +kernel
theorem dX5_init_1751 : decode cX5_init 1751 = .ok (.sipush 242, 3) := by decide +kernel
theorem dX5_init_1754 : decode cX5_init 1754 = .ok (.sipush 1205, 3) := by decide +kernel
theorem dX5_init_1757 : decode cX5_init 1757 = .ok (.iastore, 1) := by decide +kernel
theorem dX5_init_1758 : decode cX5_init 1758 = .ok (.dup, 1) := by decide +kernel
theorem dX5_init_1759 : decode cX5_init 1759 = .ok (.sipush 243, 3) := by decide +kernel
theorem dX5_init_1762 : decode cX5_init 1762 = .ok (.iconst 1, 1) := by decide +kernel
theorem dX5_init_1763 : decode cX5_init 1763 = .ok (.iastore, 1) := by decide +kernel
theorem dX5_init_1764 : decode cX5_init 1764 = .ok (.dup, 1) := by decide +kernel
theorem dX5_init_1765 : decode cX5_init 1765 = .ok (.sipush 244, 3) := by decide +kernel
theorem dX5_init_1768 : decode cX5_init 1768 = .ok (.sipush 1003, 3) := by decide +kernel
theorem dX5_init_1771 : decode cX5_init 1771 = .ok (.iastore, 1) := by decide +kernel
theorem dX5_init_1772 : decode cX5_init 1772 = .ok (.dup, 1) := by decide +kernel
theorem dX5_init_1773 : decode cX5_init 1773 = .ok (.sipush 245, 3) := by decide +kernel
theorem dX5_init_1776 : decode cX5_init 1776 = .ok (.sipush 3000, 3) := by decide +kernel
theorem dX5_init_1779 : decode cX5_init 1779 = .ok (.iastore, 1) := by decide +kernel
theorem dX5_init_1780 : decode cX5_init 1780 = .ok (.putfield 9, 3) := by decide +kernel
theorem dX5_init_1783 : decode cX5_init 1783 = .ok (.aload_n 0, 1) := by decide +kernel
theorem dX5_init_1784 : decode cX5_init 1784 = .ok (.sipush 210, 3) := by decide +kernel
theorem dX5_init_1787 : decode cX5_init 1787 = .ok (.newarray .int, 2) := by decide +kernel
theorem dX5_init_1789 : decode cX5_init 1789 = .ok (.putfield 13, 3) := by decide +kernel
theorem dX5_init_1792 : decode cX5_init 1792 = .ok (.aload_n 0, 1) := by decide +kernel
theorem dX5_init_1793 : decode cX5_init 1793 = .ok (.bipush 21, 2) := by decide +kernel
theorem dX5_init_1795 : decode cX5_init 1795 = .ok (.newarray .int, 2) := by decide +kernel
theorem dX5_init_1797 : decode cX5_init 1797 = .ok (.putfield 16, 3) := by decide +kernel
theorem dX5_init_1800 : decode cX5_init 1800 = .ok (.aload_n 0, 1) := by decide +kernel
theorem dX5_init_1801 : decode cX5_init 1801 = .ok (.bipush 21, 2) := by decide +kernel
theorem dX5_init_1803 : decode cX5_init 1803 = .ok (.newarray .int, 2) := by decide +kernel
theorem dX5_init_1805 : decode cX5_init 1805 = .ok (.putfield 19, 3) := by decide +kernel
theorem dX5_init_1808 : decode cX5_init 1808 = .ok (.aload_n 0, 1) := by decide +kernel
theorem dX5_init_1809 : decode cX5_init 1809 = .ok (.sipush 252, 3) := by decide +kernel
theorem dX5_init_1812 : decode cX5_init 1812 = .ok (.newarray .int, 2) := by decide +kernel
theorem dX5_init_1814 : decode cX5_init 1814 = .ok (.putfield 22, 3) := by decide +kernel
theorem dX5_init_1817 : decode cX5_init 1817 = .ok (.aload_n 0, 1) := by decide +kernel
theorem dX5_init_1818 : decode cX5_init 1818 = .ok (.sipush 252, 3) := by decide +kernel
theorem dX5_init_1821 : decode cX5_init 1821 = .ok (.newarray .int, 2) := by decide +kernel
theorem dX5_init_1823 : decode cX5_init 1823 = .ok (.putfield 25, 3) := by decide +kernel
theorem dX5_init_1826 : decode cX5_init 1826 = .ok (.aload_n 0, 1) := by decide +kernel
theorem dX5_init_1827 : decode cX5_init 1827 = .ok (.bipush 7, 2) := by decide +kernel
theorem dX5_init_1829 : decode cX5_init 1829 = .ok (.newarray .int, 2) := by decide +kernel
theorem dX5_init_1831 : decode cX5_init 1831 = .ok (.putfield 28, 3) := by decide +kernel
theorem dX5_init_1834 : decode cX5_init 1834 = .ok (.aload_n 0, 1) := by decide +kernel
theorem dX5_init_1835 : decode cX5_init 1835 = .ok (.bipush 11, 2) := by decide +kernel
theorem dX5_init_1837 : decode cX5_init 1837 = .ok (.newarray .int, 2) := by decide +kernel
theorem dX5_init_1839 : decode cX5_init 1839 = .ok (.putfield 31, 3) := by decide +kernel
theorem dX5_init_1842 : decode cX5_init 1842 = .ok (.aload_n 0, 1) := by decide +kernel
theorem dX5_init_1843 : decode cX5_init 1843 = .ok (.sipush 300, 3) := by decide +kernel
theorem dX5_init_1846 : decode cX5_init 1846 = .ok (.newarray .int, 2) := by decide +kernel
theorem dX5_init_1848 : decode cX5_init 1848 = .ok (.putfield 34, 3) := by decide +kernel
theorem dX5_init_1851 : decode cX5_init 1851 = .ok (.aload_n 0, 1) := by decide +kernel
theorem dX5_init_1852 : decode cX5_init 1852 = .ok (.sipush 300, 3) := by decide +kernel
theorem dX5_init_1855 : decode cX5_init 1855 = .ok (.newarray .int, 2) := by decide +kernel
theorem dX5_init_1857 : decode cX5_init 1857 = .ok (.putfield 37, 3) := by decide +kernel
theorem dX5_init_1860 : decode cX5_init 1860 = .ok (.aload_n 0, 1) := by decide +kernel
theorem dX5_init_1861 : decode cX5_init 1861 = .ok (.sipush 300, 3) := by decide +kernel
theorem dX5_init_1864 : decode cX5_init 1864 = .ok (.newarray .int, 2) := by decide +kernel
theorem dX5_init_1866 : decode cX5_init 1866 = .ok (.putfield 40, 3) := by decide +kernel
theorem dX5_init_1869 : decode cX5_init 1869 = .ok (.aload_n 0, 1) := by decide +kernel
theorem dX5_init_1870 : decode cX5_init 1870 = .ok (.sipush 300, 3) := by decide +kernel
theorem dX5_init_1873 : decode cX5_init 1873 = .ok (.newarray .int, 2) := by decide +kernel
theorem dX5_init_1875 : decode cX5_init 1875 = .ok (.putfield 43, 3) := by decide +kernel
theorem dX5_init_1878 : decode cX5_init 1878 = .ok (.aload_n 0, 1) := by decide +kernel
theorem dX5_init_1879 : decode cX5_init 1879 = .ok (.sipush 400, 3) := by decide +kernel
theorem dX5_init_1882 : decode cX5_init 1882 = .ok (.newarray .int, 2) := by decide +kernel
theorem dX5_init_1884 : decode cX5_init 1884 = .ok (.putfield 46, 3) := by decide +kernel
theorem dX5_init_1887 : decode cX5_init 1887 = .ok (.aload_n 0, 1) := by decide +kernel
theorem dX5_init_1888 : decode cX5_init 1888 = .ok (.sipush 400, 3) := by decide +kernel
theorem dX5_init_1891 : decode cX5_init 1891 = .ok (.newarray .int, 2) := by decide +kernel
theorem dX5_init_1893 : decode cX5_init 1893 = .ok (.putfield 49, 3) := by decide +kernel
theorem dX5_init_1896 : decode cX5_init 1896 = .ok (.aload_n 0, 1) := by decide +kernel
theorem dX5_init_1897 : decode cX5_init 1897 = .ok (.sipush 300, 3) := by decide +kernel
theorem dX5_init_1900 : decode cX5_init 1900 = .ok (.newarray .int, 2) := by decide +kernel
theorem dX5_init_1902 : decode cX5_init 1902 = .ok (.putfield 52, 3) := by decide +kernel
theorem dX5_init_1905 : decode cX5_init 1905 = .ok (.aload_n 0, 1) := by decide +kernel
theorem dX5_init_1906 : decode cX5_init 1906 = .ok (.sipush 300, 3) := by decide +kernel
theorem dX5_init_1909 : decode cX5_init 1909 = .ok (.newarray .int, 2) := by decide +kernel
theorem dX5_init_1911 : decode cX5_init 1911 = .ok (.putfield 55, 3) := by decide +kernel
theorem dX5_init_1914 : decode cX5_init 1914 = .ok (.aload_n 0, 1) := by decide +kernel
theorem dX5_init_1915 : decode cX5_init 1915 = .ok (.sipush 300, 3) := by decide +kernel
theorem dX5_init_1918 : decode cX5_init 1918 = .ok (.newarray .boolean, 2) := by decide +kernel
theorem dX5_init_1920 : decode cX5_init 1920 = .ok (.putfield 58, 3) := by decide +kernel
theorem dX5_init_1923 : decode cX5_init 1923 = .ok (.aload_n 0, 1) := by decide +kernel
theorem dX5_init_1924 : decode cX5_init 1924 = .ok (.bipush 64, 2) := by decide +kernel
theorem dX5_init_1926 : decode cX5_init 1926 = .ok (.newarray .int, 2) := by decide +kernel
theorem dX5_init_1928 : decode cX5_init 1928 = .ok (.putfield 62, 3) := by decide +kernel
theorem dX5_init_1931 : decode cX5_init 1931 = .ok (.aload_n 0, 1) := by decide +kernel
theorem dX5_init_1932 : decode cX5_init 1932 = .ok (.bipush 100, 2) := by decide +kernel
theorem dX5_init_1934 : decode cX5_init 1934 = .ok (.newarray .int, 2) := by decide +kernel
theorem dX5_init_1936 : decode cX5_init 1936 = .ok (.putfield 65, 3) := by decide +kernel
theorem dX5_init_1939 : decode cX5_init 1939 = .ok (.aload_n 0, 1) := by decide +kernel
theorem dX5_init_1940 : decode cX5_init 1940 = .ok (.bipush 100, 2) := by decide +kernel
theorem dX5_init_1942 : decode cX5_init 1942 = .ok (.newarray .int, 2) := by decide +kernel
theorem dX5_init_1944 : decode cX5_init 1944 = .ok (.putfield 68, 3) := by decide +kernel
theorem dX5_init_1947 : decode cX5_init 1947 = .ok (.aload_n 0, 1) := by decide +kernel
theorem dX5_init_1948 : decode cX5_init 1948 = .ok (.bipush 100, 2) := by decide +kernel
theorem dX5_init_1950 : decode cX5_init 1950 = .ok (.newarray .int, 2) := by decide +kernel
theorem dX5_init_1952 : decode cX5_init 1952 = .ok (.putfield 71, 3) := by decide +kernel
theorem dX5_init_1955 : decode cX5_init 1955 = .ok (.aload_n 0, 1) := by decide +kernel
theorem dX5_init_1956 : decode cX5_init 1956 = .ok (.sipush 300, 3) := by decide +kernel
theorem dX5_init_1959 : decode cX5_init 1959 = .ok (.newarray .int, 2) := by decide +kernel
theorem dX5_init_1961 : decode cX5_init 1961 = .ok (.putfield 74, 3) := by decide +kernel
theorem dX5_init_1964 : decode cX5_init 1964 = .ok (.iconst 0, 1) := by decide +kernel
theorem dX5_init_1965 : decode cX5_init 1965 = .ok (.istore_n 1, 1) := by decide +kernel
theorem dX5_init_1966 : decode cX5_init 1966 = .ok (.iload_n 1, 1) := by decide +kernel
theorem dX5_init_1967 : decode cX5_init 1967 = .ok (.sipush 252, 3) := by decide +kernel
theorem dX5_init_1970 : decode cX5_init 1970 = .ok (.if_icmp .ge 16, 3) := by decide +kernel
theorem dX5_init_1973 : decode cX5_init 1973 = .ok (.aload_n 0, 1) := by decide +kernel
theorem dX5_init_1974 : decode cX5_init 1974 = .ok (.getfield 22, 3) := by decide +kernel
theorem dX5_init_1977 : decode cX5_init 1977 = .ok (.iload_n 1, 1) := by decide +kernel
theorem dX5_init_1978 : decode cX5_init 1978 = .ok (.iconst (-1), 1) := by decide +kernel
theorem dX5_init_1979 : decode cX5_init 1979 = .ok (.iastore, 1) := by decide +kernel
theorem dX5_init_1980 : decode cX5_init 1980 = .ok (.iinc 1 1, 3) := by decide +kernel
theorem dX5_init_1983 : decode cX5_init 1983 = .ok (.goto (-17), 3) := by decide +kernel
theorem dX5_init_1986 : decode cX5_init 1986 = .ok (.iconst 0, 1) := by decide +kernel
theorem dX5_init_1987 : decode cX5_init 1987 = .ok (.istore_n 1, 1) := by decide +kernel
theorem dX5_init_1988 : decode cX5_init 1988 = .ok (.iload_n 1, 1) := by decide +kernel
theorem dX5_init_1989 : decode cX5_init 1989 = .ok (.aload_n 0, 1) := by decide +kernel
theorem dX5_init_1990 : decode cX5_init 1990 = .ok (.getfield 9, 3) := by decide +kernel
theorem dX5_init_1993 : decode cX5_init 1993 = .ok (.arraylength, 1) := by decide +kernel
theorem dX5_init_1994 : decode cX5_init 1994 = .ok (.if_icmp .ge 39, 3) := by decide +kernel
theorem dX5_init_1997 : decode cX5_init 1997 = .ok (.aload_n 0, 1) := by decide +kernel
theorem dX5_init_1998 : decode cX5_init 1998 = .ok (.getfield 9, 3) := by decide +kernel
theorem dX5_init_2001 : decode cX5_init 2001 = .ok (.iload_n 1, 1) := by decide +kernel
theorem dX5_init_2002 : decode cX5_init 2002 = .ok (.iaload, 1) := by decide +kernel
theorem dX5_init_2003 : decode cX5_init 2003 = .ok (.sipush 3000, 3) := by decide +kernel
theorem dX5_init_2006 : decode cX5_init 2006 = .ok (.if_icmp .le 21, 3) := by decide +kernel
theorem dX5_init_2009 : decode cX5_init 2009 = .ok (.aload_n 0, 1) := by decide +kernel
theorem dX5_init_2010 : decode cX5_init 2010 = .ok (.getfield 13, 3) := by decide +kernel
theorem dX5_init_2013 : decode cX5_init 2013 = .ok (.aload_n 0, 1) := by decide +kernel
theorem dX5_init_2014 : decode cX5_init 2014 = .ok (.getfield 9, 3) := by decide +kernel
theorem dX5_init_2017 : decode cX5_init 2017 = .ok (.iload_n 1, 1) := by decide +kernel
theorem dX5_init_2018 : decode cX5_init 2018 = .ok (.iaload, 1) := by decide +kernel
theorem dX5_init_2019 : decode cX5_init 2019 = .ok (.sipush 3000, 3) := by decide +kernel
theorem dX5_init_2022 : decode cX5_init 2022 = .ok (.isub, 1) := by decide +kernel
theorem dX5_init_2023 : decode cX5_init 2023 = .ok (.iload_n 1, 1) := by decide +kernel
theorem dX5_init_2024 : decode cX5_init 2024 = .ok (.iconst 1, 1) := by decide +kernel
theorem dX5_init_2025 : decode cX5_init 2025 = .ok (.iadd, 1) := by decide +kernel
theorem dX5_init_2026 : decode cX5_init 2026 = .ok (.iastore, 1) := by decide +kernel
theorem dX5_init_2027 : decode cX5_init 2027 = .ok (.iinc 1 1, 3) := by decide +kernel
theorem dX5_init_2030 : decode cX5_init 2030 = .ok (.goto (-42), 3) := by decide +kernel
theorem dX5_init_2033 : decode cX5_init 2033 = .ok (.aload_n 0, 1) := by decide +kernel
theorem dX5_init_2034 : decode cX5_init 2034 = .ok (.iconst 1, 1) := by decide +kernel
theorem dX5_init_2035 : decode cX5_init 2035 = .ok (.iconst 1, 1) := by decide +kernel
theorem dX5_init_2036 : decode cX5_init 2036 = .ok (.bipush 10, 2) := by decide +kernel
theorem dX5_init_2038 : decode cX5_init 2038 = .ok (.invokevirtual 77, 3) := by decide +kernel
theorem dX5_init_2041 : decode cX5_init 2041 = .ok (.aload_n 0, 1) := by decide +kernel
theorem dX5_init_2042 : decode cX5_init 2042 = .ok (.iconst 1, 1) := by decide +kernel
theorem dX5_init_2043 : decode cX5_init 2043 = .ok (.iconst 2, 1) := by decide +kernel
theorem dX5_init_2044 : decode cX5_init 2044 = .ok (.bipush 11, 2) := by decide +kernel
theorem dX5_init_2046 : decode cX5_init 2046 = .ok (.invokevirtual 77, 3) := by decide +kernel
theorem dX5_init_2049 : decode cX5_init 2049 = .ok (.aload_n 0, 1) := by decide +kernel
theorem dX5_init_2050 : decode cX5_init 2050 = .ok (.iconst 2, 1) := by decide +kernel
theorem dX5_init_2051 : decode cX5_init 2051 = .ok (.iconst 4, 1) := by decide +kernel
theorem dX5_init_2052 : decode cX5_init 2052 = .ok (.bipush 20, 2) := by decide +kernel
theorem dX5_init_2054 : decode cX5_init 2054 = .ok (.invokevirtual 77, 3) := by decide +kernel
theorem dX5_init_2057 : decode cX5_init 2057 = .ok (.aload_n 0, 1) := by decide +kernel
theorem dX5_init_2058 : decode cX5_init 2058 = .ok (.iconst 2, 1) := by decide +kernel
theorem dX5_init_2059 : decode cX5_init 2059 = .ok (.iconst 2, 1) := by decide +kernel
theorem dX5_init_2060 : decode cX5_init 2060 = .ok (.bipush 21, 2) := by decide +kernel
theorem dX5_init_2062 : decode cX5_init 2062 = .ok (.invokevirtual 77, 3) := by decide +kernel
theorem dX5_init_2065 : decode cX5_init 2065 = .ok (.aload_n 0, 1) := by decide +kernel
theorem dX5_init_2066 : decode cX5_init 2066 = .ok (.iconst 3, 1) := by decide +kernel
theorem dX5_init_2067 : decode cX5_init 2067 = .ok (.iconst 2, 1) := by decide +kernel
theorem dX5_init_2068 : decode cX5_init 2068 = .ok (.bipush 30, 2) := by decide +kernel
theorem dX5_init_2070 : decode cX5_init 2070 = .ok (.invokevirtual 77, 3) := by decide +kernel
theorem dX5_init_2073 : decode cX5_init 2073 = .ok (.aload_n 0, 1) := by decide +kernel
theorem dX5_init_2074 : decode cX5_init 2074 = .ok (.iconst 4, 1) := by decide +kernel
theorem dX5_init_2075 : decode cX5_init 2075 = .ok (.bipush 6, 2) := by decide +kernel
theorem dX5_init_2077 : decode cX5_init 2077 = .ok (.bipush 40, 2) := by decide +kernel
theorem dX5_init_2079 : decode cX5_init 2079 = .ok (.invokevirtual 77, 3) := by decide +kernel
theorem dX5_init_2082 : decode cX5_init 2082 = .ok (.aload_n 0, 1) := by decide +kernel
theorem dX5_init_2083 : decode cX5_init 2083 = .ok (.iconst 4, 1) := by decide +kernel
theorem dX5_init_2084 : decode cX5_init 2084 = .ok (.bipush 7, 2) := by decide +kernel
theorem dX5_init_2086 : decode cX5_init 2086 = .ok (.bipush 41, 2) := by decide +kernel
theorem dX5_init_2088 : decode cX5_init 2088 = .ok (.invokevirtual 77, 3) := by decide +kernel
theorem dX5_init_2091 : decode cX5_init 2091 = .ok (.aload_n 0, 1) := by decide +kernel

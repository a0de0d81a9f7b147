set_option maxRecDepth 20000 in
theorem ggL_law_X11_weight : GoodIn wsL_law wsX11_weight := goodIn_r _ [1454, 34, 25, 1423, 1424, 1425, 2, 1426, 911, 912, 913, 33, 914, 249, 250, 251, 252, 77, 253, 254, 940, 450, 451, 452, 144, 145, 146, 147, 36, 1427, 1428, 1429, 24, 1430, 1431, 1432, 371, 372, 373, 73, 1433, 1434, 1435, 1436, 482, 54, 55, 1437, 846, 167, 847, 56, 1438, 1379, 1380, 87, 1381, 106, 1455, 1456, 1457, 1458, 1459, 448, 484, 485, 486, 487, 1568, 1569, 1570, 1571, 1572, 1573, 1574, 1575, 1634, 1635, 1636, 1637, 1638, 1639, 1640, 1641, 1642, 1643, 1644, 1645, 1646, 1647, 1648, 1649, 1650, 1619, 1620, 1621, 1622, 1670, 1671, 1672, 1673, 1674] rfl (by decide +kernel)
set_option maxRecDepth 20000 in
theorem gL_law_X11_weight : GoodIn wsL_law (wsV RL 189 RX11 yX11_weight wsX11_weight) := goodIn_app (goodIn_of _ (by decide +kernel)) ggL_law_X11_weight
set_option maxRecDepth 20000 in
theorem ggL_law_X13_weight : GoodIn wsL_law wsX13_weight := goodIn_r _ [1463, 138, 502, 505, 506, 507, 5, 508, 500, 114, 1447, 1448, 1449, 1450, 503, 117, 118, 119, 1390, 1391, 1392, 1393, 1394, 1395, 1396, 1397, 683, 684, 685, 686, 1576, 1577, 1578, 1579, 1580, 1581, 1582, 1583, 1584, 1585, 1586, 1587, 1588, 1589, 1590, 1591, 1592, 1593, 1594, 1595, 1596, 1597, 1598, 1599, 1600, 1601, 1602, 1603, 1604, 1677, 1678, 1679, 1680, 1681, 1682, 1683, 1684, 1685, 1686, 1687, 1688, 1689, 1690, 1691, 1692, 1693, 1694, 1695, 1696, 1697, 1698, 1699, 1700, 1701, 1702, 1703, 1704, 1705, 1706, 1707, 1708, 1709, 1710, 1711, 1712, 1713, 1714, 1715, 1716, 1717, 1718, 1719, 1720, 1721, 1722, 1723, 1724] rfl (by decide +kernel)
set_option maxRecDepth 20000 in
theorem gL_law_X13_weight : GoodIn wsL_law (wsV RL 192 RX13 yX13_weight wsX13_weight) := goodIn_app (goodIn_of _ (by decide +kernel)) ggL_law_X13_weight
set_option maxRecDepth 20000 in
theorem ggL_law_X11_gone : GoodIn wsL_law wsX11_gone := goodIn_r _ [1467, 34, 1374, 371, 372, 33, 373, 77, 73, 144, 145, 146, 2, 147, 36, 940, 450, 451, 452, 249, 250, 251, 252, 253, 254, 1468, 1469, 1470, 87, 1471, 106, 484, 485, 486, 487, 1568, 1569, 1570, 1571, 1572, 1573, 1574, 1575, 1634, 1635, 1636, 1637, 1638, 1639, 1640, 1641, 1642, 1643, 1644, 1645, 1646, 1647, 1648, 1649, 1650, 1670, 1671, 1672, 1673, 1674] rfl (by decide +kernel)
set_option maxRecDepth 20000 in
theorem gL_law_X11_gone : GoodIn wsL_law (wsV RL 193 RX11 yX11_gone wsX11_gone) := goodIn_app (goodIn_of _ (by decide +kernel)) ggL_law_X11_gone
set_option maxRecDepth 20000 in
theorem ggL_law_X13_gone : GoodIn wsL_law wsX13_gone := goodIn_r _ [1475, 138, 502, 1386, 1387, 1388, 5, 1389, 505, 506, 507, 508, 500, 114, 1390, 1391, 1392, 1393, 1394, 1395, 1396, 1397, 683, 684, 685, 686, 1576, 1577, 1578, 1579, 1580, 1581, 1582, 1583, 1584, 1585, 1586, 1587, 1588, 1589, 1590, 1591, 1592, 1593, 1594, 1595, 1596, 1597, 1598, 1599, 1600, 1601, 1602, 1603, 1604, 1677, 1678, 1679, 1680, 1681, 1682, 1683, 1684, 1685, 1686, 1687, 1688, 1689, 1690, 1691, 1692, 1693, 1694, 1695, 1696, 1697, 1698, 1699, 1700, 1701, 1702, 1703, 1704, 1705, 1706, 1707, 1708, 1709, 1710, 1711, 1712, 1713, 1714, 1715, 1716, 1717, 1718, 1719, 1720, 1721, 1722, 1723, 1724] rfl (by decide +kernel)
set_option maxRecDepth 20000 in
theorem gL_law_X13_gone : GoodIn wsL_law (wsV RL 196 RX13 yX13_gone wsX13_gone) := goodIn_app (goodIn_of _ (by decide +kernel)) ggL_law_X13_gone
set_option maxRecDepth 20000 in
theorem ggL_law_X11_dig : GoodIn wsL_law wsX11_dig := goodIn_r _ [1479, 25, 34, 1423, 1424, 1425, 2, 1426, 911, 912, 913, 33, 914, 249, 250, 251, 252, 77, 253, 254, 940, 450, 451, 452, 144, 145, 146, 147, 36, 1427, 1428, 1429, 24, 1430, 1431, 1432, 371, 372, 373, 73, 1433, 1434, 1435, 1436, 482, 54, 55, 1437, 846, 167, 847, 56, 1438, 1379, 1380, 87, 1381, 106, 1480, 1481, 1482, 1483, 1484, 1485, 1486, 1487, 1312, 166, 168, 1307, 459, 460, 448, 1488, 484, 485, 486, 487, 1568, 1569, 1570, 1571, 1572, 1573, 1574, 1575, 1634, 1635, 1636, 1637, 1638, 1639, 1640, 1641, 1642, 1643, 1644, 1645, 1646, 1647, 1648, 1649, 1650, 1619, 1620, 1621, 1622, 1670, 1671, 1672, 1673, 1674] rfl (by decide +kernel)
set_option maxRecDepth 20000 in
theorem gL_law_X11_dig : GoodIn wsL_law (wsV RL 197 RX11 yX11_dig wsX11_dig) := goodIn_app (goodIn_of _ (by decide +kernel)) ggL_law_X11_dig
set_option maxRecDepth 20000 in
theorem ggL_law_X13_dig : GoodIn wsL_law wsX13_dig := goodIn_r _ [1492, 138, 502, 505, 506, 507, 5, 508, 500, 114, 1443, 1444, 1445, 1446, 1447, 1448, 1449, 1450, 503, 117, 118, 119, 1390, 1391, 1392, 1393, 1394, 1395, 1396, 1397, 683, 684, 685, 686, 1576, 1577, 1578, 1579, 1580, 1581, 1582, 1583, 1584, 1585, 1586, 1587, 1588, 1589, 1590, 1591, 1592, 1593, 1594, 1595, 1596, 1597, 1598, 1599, 1600, 1601, 1602, 1603, 1604, 1677, 1678, 1679, 1680, 1681, 1682, 1683, 1684, 1685, 1686, 1687, 1688, 1689, 1690, 1691, 1692, 1693, 1694, 1695, 1696, 1697, 1698, 1699, 1700, 1701, 1702, 1703, 1704, 1705, 1706, 1707, 1708, 1709, 1710, 1711, 1712, 1713, 1714, 1715, 1716, 1717, 1718, 1719, 1720, 1721, 1722, 1723, 1724] rfl (by decide +kernel)
set_option maxRecDepth 20000 in
theorem gL_law_X13_dig : GoodIn wsL_law (wsV RL 200 RX13 yX13_dig wsX13_dig) := goodIn_app (goodIn_of _ (by decide +kernel)) ggL_law_X13_dig
set_option maxRecDepth 20000 in
theorem ggL_law_X11_lived : GoodIn wsL_law wsX11_lived := goodIn_r _ [1496, 34, 911, 912, 913, 33, 914, 249, 250, 251, 252, 77, 253, 2, 254, 144, 145, 146, 147, 36, 940, 450, 451, 452, 1497, 1498, 1499, 1500, 1501, 1502, 1503, 1504, 1505, 1312, 166, 167, 168, 484, 485, 486, 487, 1568, 1569, 1570, 1571, 1572, 1573, 1574, 1575, 1634, 1635, 1636, 1637, 1638, 1639, 1640, 1641, 1642, 1643, 1644, 1645, 1646, 1647, 1648, 1649, 1650] rfl (by decide +kernel)
set_option maxRecDepth 20000 in
theorem gL_law_X11_lived : GoodIn wsL_law (wsV RL 201 RX11 yX11_lived wsX11_lived) := goodIn_app (goodIn_of _ (by decide +kernel)) ggL_law_X11_lived
set_option maxRecDepth 20000 in
theorem ggL_law_X13_lived : GoodIn wsL_law wsX13_lived := goodIn_r _ [1509, 138, 502, 505, 506, 507, 5, 508, 500, 114, 683, 684, 685, 686, 1576, 1577, 1578, 1579, 1580, 1581, 1582, 1583, 1584, 1585, 1586, 1587, 1588, 1589, 1590, 1591, 1592, 1593, 1594, 1595, 1596, 1597, 1598, 1599, 1600, 1601, 1602, 1603, 1604, 1677, 1678, 1679, 1680, 1681, 1682, 1683, 1684, 1685, 1686, 1687, 1688, 1689, 1690, 1691, 1692, 1693, 1694, 1695, 1696, 1697, 1698, 1699, 1700, 1701, 1702, 1703, 1704, 1705, 1706, 1707, 1708, 1709, 1710, 1711, 1712, 1713, 1714, 1715, 1716, 1717, 1718, 1719, 1720, 1721, 1722, 1723, 1724] rfl (by decide +kernel)
set_option maxRecDepth 20000 in
theorem gL_law_X13_lived : GoodIn wsL_law (wsV RL 205 RX13 yX13_lived wsX13_lived) := goodIn_app (goodIn_of _ (by decide +kernel)) ggL_law_X13_lived
set_option maxRecDepth 20000 in
theorem ggL_law_L_led : GoodIn wsL_law wsL_led := goodIn_ca (goodIn_r _ [1513, 1514, 1515, 1516, 1517, 2, 1518, 1519, 1520, 34, 709, 270, 271, 33, 272, 77, 65, 1521, 1522, 1523, 1524, 1126, 1127, 249, 250, 251, 252, 253, 254, 1129, 320, 321, 322, 69, 1130, 340, 341, 83, 342, 343, 1131, 865, 866, 79, 867, 868, 718, 869, 870, 871, 872, 1568, 1569, 1570, 1571, 1572, 1573, 1574, 1575, 1634, 1635, 1636, 1637, 1638, 1639, 1640, 1641, 1642, 1643, 1644, 1645, 1646, 1647, 1648, 1649, 1650, 1657, 1658, 1659, 1660, 1661, 1662, 1663, 1664, 1651, 1652, 1653] (by decide +kernel) (by decide +kernel)) (goodIn_sub (fun _ h => List.mem_append_right _ h) (by decide +kernel))
set_option maxRecDepth 20000 in
theorem gL_law_L_led : GoodIn wsL_law (va_wsS RL 206 yL_led wsL_led) := goodIn_app (goodIn_of _ (by decide +kernel)) ggL_law_L_led
set_option maxRecDepth 20000 in
theorem ggL_law_X13_led : GoodIn wsL_law wsX13_led := goodIn_r _ [1528, 138, 502, 730, 731, 732, 5, 733, 1168, 1169, 1170, 1171, 765, 766, 767, 497, 768, 517, 877, 878, 879, 880, 1576, 1577, 1578, 1579, 1580, 1581, 1582, 1583, 1584, 1585, 1586, 1587, 1588, 1589, 1590, 1591, 1592, 1593, 1594, 1595, 1596, 1597, 1598, 1599, 1600, 1601, 1602, 1603, 1604, 1677, 1678, 1679, 1680, 1681, 1682, 1683, 1684, 1685, 1686, 1687, 1688, 1689, 1690, 1691, 1692, 1693, 1694, 1695, 1696, 1697, 1698, 1699, 1700, 1701, 1702, 1703, 1704, 1705, 1706, 1707, 1708, 1709, 1710, 1711, 1712, 1713, 1714, 1715, 1716, 1717, 1718, 1719, 1720, 1721, 1722, 1723, 1724] rfl (by decide +kernel)
set_option maxRecDepth 20000 in
theorem gL_law_X13_led : GoodIn wsL_law (wsV RL 211 RX13 yX13_led wsX13_led) := goodIn_app (goodIn_of _ (by decide +kernel)) ggL_law_X13_led
set_option maxRecDepth 20000 in
theorem ggL_law_X13_thrown : GoodIn wsL_law wsX13_thrown := goodIn_r _ [1532, 138, 1576, 1577, 1578, 1579, 1580, 1581, 1582, 1583, 1584, 1585, 1586, 1587, 1588, 1589, 1590, 1591, 1592, 1593, 1594, 1595, 1596, 1597, 1598, 1599, 1600, 1601, 1602, 1603, 1604] rfl (by decide +kernel)
set_option maxRecDepth 20000 in
theorem gL_law_X13_thrown : GoodIn wsL_law (wsV RL 212 RX13 yX13_thrown wsX13_thrown) := goodIn_app (goodIn_of _ (by decide +kernel)) ggL_law_X13_thrown
set_option maxRecDepth 20000 in
theorem ggL_law_X11_size : GoodIn wsL_law wsX11_size := goodIn_r _ [1536, 34, 25, 1402, 29, 910, 17, 124, 1537, 483, 250, 251, 33, 252, 77, 253, 2, 254, 1568, 1569, 1570, 1571, 1572, 1573, 1574, 1575, 1619, 1620, 1621, 1622, 1623, 1624, 1625, 1626, 1627, 1628, 1629, 1630, 1631, 1632, 1633, 1605, 1606, 1607, 1608, 1609, 1610, 1611, 1634, 1635, 1636, 1637, 1638, 1639, 1640, 1641, 1642, 1643, 1644, 1645, 1646, 1647, 1648, 1649, 1650] rfl (by decide +kernel)
set_option maxRecDepth 20000 in
theorem gL_law_X11_size : GoodIn wsL_law (wsV RL 215 RX11 yX11_size wsX11_size) := goodIn_app (goodIn_of _ (by decide +kernel)) ggL_law_X11_size
set_option maxRecDepth 20000 in
theorem ggL_law_X13_size : GoodIn wsL_law wsX13_size := goodIn_r _ [1541, 138, 139, 502, 503, 504, 620, 621, 5, 622, 1576, 1577, 1578, 1579, 1580, 1581, 1582, 1583, 1584, 1585, 1586, 1587, 1588, 1589, 1590, 1591, 1592, 1593, 1594, 1595, 1596, 1597, 1598, 1599, 1600, 1601, 1602, 1603, 1604, 1677, 1678, 1679, 1680, 1681, 1682, 1683, 1684, 1685, 1686, 1687, 1688, 1689, 1690, 1691, 1692, 1693, 1694, 1695, 1696, 1697, 1698, 1699, 1700, 1701, 1702, 1703, 1704, 1705, 1706, 1707, 1708, 1709, 1710, 1711, 1712, 1713, 1714, 1715, 1716, 1717, 1718, 1719, 1720, 1721, 1722, 1723, 1724] rfl (by decide +kernel)
set_option maxRecDepth 20000 in
theorem gL_law_X13_size : GoodIn wsL_law (wsV RL 218 RX13 yX13_size wsX13_size) := goodIn_app (goodIn_of _ (by decide +kernel)) ggL_law_X13_size
set_option maxRecDepth 20000 in
theorem ggL_law_X11_statue : GoodIn wsL_law wsX11_statue := goodIn_r _ [1545, 34, 710, 320, 321, 33, 322, 77, 69, 1546, 1547, 1548, 83, 1549, 1550, 1551, 1552, 343, 1553, 1554, 1555, 1568, 1569, 1570, 1571, 1572, 1573, 1574, 1575, 1634, 1635, 1636, 1637, 1638, 1639, 1640, 1641, 1642, 1643, 1644, 1645, 1646, 1647, 1648, 1649, 1650, 1657, 1658, 1659, 1660, 1661, 1662, 1663, 1664] rfl (by decide +kernel)
set_option maxRecDepth 20000 in
theorem gL_law_X11_statue : GoodIn wsL_law (wsV RL 219 RX11 yX11_statue wsX11_statue) := goodIn_app (goodIn_of _ (by decide +kernel)) ggL_law_X11_statue
set_option maxRecDepth 20000 in
theorem ggL_law_X13_statue : GoodIn wsL_law wsX13_statue := goodIn_r _ [1559, 138, 502, 734, 735, 736, 5, 737, 620, 621, 622, 1576, 1577, 1578, 1579, 1580, 1581, 1582, 1583, 1584, 1585, 1586, 1587, 1588, 1589, 1590, 1591, 1592, 1593, 1594, 1595, 1596, 1597, 1598, 1599, 1600, 1601, 1602, 1603, 1604, 1677, 1678, 1679, 1680, 1681, 1682, 1683, 1684, 1685, 1686, 1687, 1688, 1689, 1690, 1691, 1692, 1693, 1694, 1695, 1696, 1697, 1698, 1699, 1700, 1701, 1702, 1703, 1704, 1705, 1706, 1707, 1708, 1709, 1710, 1711, 1712, 1713, 1714, 1715, 1716, 1717, 1718, 1719, 1720, 1721, 1722, 1723, 1724] rfl (by decide +kernel)
set_option maxRecDepth 20000 in
theorem gL_law_X13_statue : GoodIn wsL_law (wsV RL 222 RX13 yX13_statue wsX13_statue) := goodIn_app (goodIn_of _ (by decide +kernel)) ggL_law_X13_statue
set_option maxRecDepth 20000 in
theorem ggL_law_X11_trouble : GoodIn wsL_law wsX11_trouble := goodIn_r _ [1563, 36, 1568, 1569, 1570, 1571, 1572, 1573, 1574, 1575] rfl (by decide +kernel)
set_option maxRecDepth 20000 in
theorem gL_law_X11_trouble : GoodIn wsL_law (wsV RL 223 RX11 yX11_trouble wsX11_trouble) := goodIn_app (goodIn_of _ (by decide +kernel)) ggL_law_X11_trouble
set_option maxRecDepth 20000 in
theorem ggL_law_X13_trouble : GoodIn wsL_law wsX13_trouble := goodIn_r _ [1567, 138, 500, 1576, 1577, 1578, 1579, 1580, 1581, 1582, 1583, 1584, 1585, 1586, 1587, 1588, 1589, 1590, 1591, 1592, 1593, 1594, 1595, 1596, 1597, 1598, 1599, 1600, 1601, 1602, 1603, 1604] rfl (by decide +kernel)
set_option maxRecDepth 20000 in
theorem gL_law_X13_trouble : GoodIn wsL_law (wsV RL 226 RX13 yX13_trouble wsX13_trouble) := goodIn_app (goodIn_of _ (by decide +kernel)) ggL_law_X13_trouble

/-! THE LAW'S TURNS, 2 (printed by wip/whole/gen_turn.py) -/
theorem tn20 {D : Nat} (hD : 80 ≤ D) : TN D 1493 := by
  intro n I L R nc ns nx T c N w t p l5 l6 x X ⟨q1, q2, q3, q4, q5⟩
  have Y : SAMEX 145 255 [.int (I 0 (x + 1).toNatClampNeg), .int (I 0 (x + 2).toNatClampNeg)] Int32.toInt64 := S20
  obtain ⟨code, b, I1, I2, L1, L2, R1, nc1, ns1, nx1, T', c', N', w', t', p', h1, h2, h3, h4, h5, h6, h7, h8⟩ := Y n I L R nc ns nx T c N w t p X
  have hk : ∀ j, I1 0 j = I 0 j := kp_cf (h1 0)
  have h1 := h1 (D - 14)
  have h2 := h2 (D - 14)
  rw [show D - 14 + 14 = D by omega] at h1 h2
  simp only [List.cons_append, List.nil_append] at h1
  refine ⟨some (.int code), some (.int b), I2, L2, R1, nc1, ns1, nx1, T', c', N', w', t', p', ?_, h5, h6, h7, h8⟩
  by_cases g : code = 0
  · have h4 := h4 g; subst g
    simp only [e284_1493, e284_1494, e284_1495, e284_1497, e284_1498, e284_1499, e284_1500, e284_1501, e284_1503, e284_1504, e284_1505, e284_1506, e284_1507, e284_1510, e284_1512, e284_1513, e284_1514, e284_1516, e284_1517, e284_1518, e284_1519, e284_1520, e284_1522, e284_1523, e284_1524, e284_1525, e284_1528, e284_1530, e284_1531, e284_1534, e284_1536, e284_1539, e284_1540, e284_1541, e284_1543, e284_1546, e284_1547, e284_1548, e284_1549, e284_1551, e284_1552, e284_1553, e284_1556, e284_1557, e284_1558, rk_n, rk_v, nl_n, nl_i, nl_r, cat_n, ip_cat_int, ip_cat_ref, ip_cat_long, ip_rf_some, Nat.reduceAdd, Nat.reduceLeDiff, Nat.reduceLT, Nat.le_refl, Nat.zero_le, q1, q2, q3, q4, q5, hk, h1, h2, c189, h3, h4, lg_self, ia_lit, inbL, tnL, Bool.false_eq_true, Bool.true_eq_false, if_true, if_false, not_true_eq_false, not_false_eq_true, zle, eq_self]
  · simp only [e284_1493, e284_1494, e284_1495, e284_1497, e284_1498, e284_1499, e284_1500, e284_1501, e284_1503, e284_1504, e284_1505, e284_1506, e284_1507, e284_1510, e284_1512, e284_1513, e284_1514, e284_1516, e284_1517, e284_1518, e284_1519, e284_1520, e284_1522, e284_1523, e284_1524, e284_1525, e284_1528, e284_1530, e284_1531, e284_1534, e284_1536, e284_1539, e284_1540, e284_1541, e284_1543, e284_1546, e284_1547, e284_1548, e284_1549, e284_1551, e284_1552, e284_1553, e284_1556, e284_1557, e284_1558, rk_n, rk_v, nl_n, nl_i, nl_r, cat_n, ip_cat_int, ip_cat_ref, ip_cat_long, ip_rf_some, Nat.reduceAdd, Nat.reduceLeDiff, Nat.reduceLT, Nat.le_refl, Nat.zero_le, q1, q2, q3, q4, q5, hk, h1, h2, c189, h3, g, Bool.false_eq_true, Bool.true_eq_false, if_true, if_false, not_true_eq_false, not_false_eq_true, zle, eq_self]
theorem tn21 {D : Nat} (hD : 80 ≤ D) : TN D 1561 := by
  intro n I L R nc ns nx T c N w t p l5 l6 x X ⟨q1, q2, q3, q4, q5⟩
  by_cases gz : I 0 (x + 1).toNatClampNeg = 0
  · have Y : SAMEB 17 263 [.int 0] := S21
    obtain ⟨b, I1, I2, L1, L2, R1, nc1, ns1, nx1, T', c', N', w', t', p', h1, h2, h5, h6, h7, h8⟩ := Y n I L R nc ns nx T c N w t p X
    have hk : ∀ j, I1 0 j = I 0 j := kp_cf (h1 0)
    have h1 := h1 (D - 14)
    have h2 := h2 (D - 14)
    rw [show D - 14 + 14 = D by omega] at h1 h2
    refine ⟨l5, l6, I2, L2, R1, nc1, ns1, nx1, T', c', N', w', t', p', ?_, h5, h6, h7, h8⟩
    simp only [e284_1561, e284_1562, e284_1563, e284_1565, e284_1566, e284_1567, e284_1568, e284_1571, e284_1572, e284_1575, e284_1576, e284_1579, e284_1580, e284_1581, e284_1583, e284_1584, e284_1585, e284_1586, e284_1589, e284_1590, e284_1593, e284_1594, e284_1597, e284_1600, e284_1601, rk_n, rk_v, nl_n, nl_i, nl_r, cat_n, ip_cat_int, ip_cat_ref, ip_cat_long, ip_rf_some, Nat.reduceAdd, Nat.reduceLeDiff, Nat.reduceLT, Nat.le_refl, Nat.zero_le, q1, q2, q3, q4, q5, hk, h1, h2, gz, Bool.false_eq_true, Bool.true_eq_false, if_true, if_false, not_true_eq_false, not_false_eq_true, zle, eq_self]
  · have Y : SAMEB 17 263 [.int 1] := S21
    obtain ⟨b, I1, I2, L1, L2, R1, nc1, ns1, nx1, T', c', N', w', t', p', h1, h2, h5, h6, h7, h8⟩ := Y n I L R nc ns nx T c N w t p X
    have hk : ∀ j, I1 0 j = I 0 j := kp_cf (h1 0)
    have h1 := h1 (D - 14)
    have h2 := h2 (D - 14)
    rw [show D - 14 + 14 = D by omega] at h1 h2
    refine ⟨l5, l6, I2, L2, R1, nc1, ns1, nx1, T', c', N', w', t', p', ?_, h5, h6, h7, h8⟩
    simp only [e284_1561, e284_1562, e284_1563, e284_1565, e284_1566, e284_1567, e284_1568, e284_1571, e284_1572, e284_1575, e284_1576, e284_1579, e284_1580, e284_1581, e284_1583, e284_1584, e284_1585, e284_1586, e284_1589, e284_1590, e284_1593, e284_1594, e284_1597, e284_1600, e284_1601, rk_n, rk_v, nl_n, nl_i, nl_r, cat_n, ip_cat_int, ip_cat_ref, ip_cat_long, ip_rf_some, Nat.reduceAdd, Nat.reduceLeDiff, Nat.reduceLT, Nat.le_refl, Nat.zero_le, q1, q2, q3, q4, q5, hk, h1, h2, gz, Bool.false_eq_true, Bool.true_eq_false, if_true, if_false, not_true_eq_false, not_false_eq_true, zle, eq_self]
theorem tn22 {D : Nat} (hD : 80 ≤ D) : TN D 1602 := by
  intro n I L R nc ns nx T c N w t p l5 l6 x X ⟨q1, q2, q3, q4, q5⟩
  have Y : SAMEX 153 264 [.int (I 0 (x + 1).toNatClampNeg)] Int32.toInt64 := S22
  obtain ⟨code, b, I1, I2, L1, L2, R1, nc1, ns1, nx1, T', c', N', w', t', p', h1, h2, h3, h4, h5, h6, h7, h8⟩ := Y n I L R nc ns nx T c N w t p X
  have hk : ∀ j, I1 0 j = I 0 j := kp_cf (h1 0)
  have h1 := h1 (D - 14)
  have h2 := h2 (D - 14)
  rw [show D - 14 + 14 = D by omega] at h1 h2
  simp only [List.cons_append, List.nil_append] at h1
  refine ⟨some (.int code), some (.int b), I2, L2, R1, nc1, ns1, nx1, T', c', N', w', t', p', ?_, h5, h6, h7, h8⟩
  by_cases g : code = 0
  · have h4 := h4 g; subst g
    simp only [e284_1602, e284_1603, e284_1604, e284_1606, e284_1607, e284_1608, e284_1609, e284_1610, e284_1613, e284_1615, e284_1616, e284_1617, e284_1619, e284_1620, e284_1621, e284_1622, e284_1625, e284_1627, e284_1628, e284_1631, e284_1633, e284_1636, e284_1637, e284_1638, e284_1640, e284_1643, e284_1644, e284_1645, e284_1646, e284_1648, e284_1649, e284_1650, e284_1653, e284_1654, e284_1655, rk_n, rk_v, nl_n, nl_i, nl_r, cat_n, ip_cat_int, ip_cat_ref, ip_cat_long, ip_rf_some, Nat.reduceAdd, Nat.reduceLeDiff, Nat.reduceLT, Nat.le_refl, Nat.zero_le, q1, q2, q3, q4, q5, hk, h1, h2, c189, h3, h4, lg_self, ia_lit, inbL, tnL, Bool.false_eq_true, Bool.true_eq_false, if_true, if_false, not_true_eq_false, not_false_eq_true, zle, eq_self]
  · simp only [e284_1602, e284_1603, e284_1604, e284_1606, e284_1607, e284_1608, e284_1609, e284_1610, e284_1613, e284_1615, e284_1616, e284_1617, e284_1619, e284_1620, e284_1621, e284_1622, e284_1625, e284_1627, e284_1628, e284_1631, e284_1633, e284_1636, e284_1637, e284_1638, e284_1640, e284_1643, e284_1644, e284_1645, e284_1646, e284_1648, e284_1649, e284_1650, e284_1653, e284_1654, e284_1655, rk_n, rk_v, nl_n, nl_i, nl_r, cat_n, ip_cat_int, ip_cat_ref, ip_cat_long, ip_rf_some, Nat.reduceAdd, Nat.reduceLeDiff, Nat.reduceLT, Nat.le_refl, Nat.zero_le, q1, q2, q3, q4, q5, hk, h1, h2, c189, h3, g, Bool.false_eq_true, Bool.true_eq_false, if_true, if_false, not_true_eq_false, not_false_eq_true, zle, eq_self]
theorem tn23 {D : Nat} (hD : 80 ≤ D) : TN D 1658 := by
  intro n I L R nc ns nx T c N w t p l5 l6 x X ⟨q1, q2, q3, q4, q5⟩
  have Y : SAMEX 156 265 [.int (I 0 (x + 1).toNatClampNeg), .int (I 0 (x + 2).toNatClampNeg)] Int32.toInt64 := S23
  obtain ⟨code, b, I1, I2, L1, L2, R1, nc1, ns1, nx1, T', c', N', w', t', p', h1, h2, h3, h4, h5, h6, h7, h8⟩ := Y n I L R nc ns nx T c N w t p X
  have hk : ∀ j, I1 0 j = I 0 j := kp_cf (h1 0)
  have h1 := h1 (D - 14)
  have h2 := h2 (D - 14)
  rw [show D - 14 + 14 = D by omega] at h1 h2
  simp only [List.cons_append, List.nil_append] at h1
  refine ⟨some (.int code), some (.int b), I2, L2, R1, nc1, ns1, nx1, T', c', N', w', t', p', ?_, h5, h6, h7, h8⟩
  by_cases g : code = 0
  · have h4 := h4 g; subst g
    simp only [e284_1658, e284_1659, e284_1660, e284_1662, e284_1663, e284_1664, e284_1665, e284_1666, e284_1668, e284_1669, e284_1670, e284_1671, e284_1672, e284_1675, e284_1677, e284_1678, e284_1679, e284_1681, e284_1682, e284_1683, e284_1684, e284_1685, e284_1687, e284_1688, e284_1689, e284_1690, e284_1693, e284_1695, e284_1696, e284_1699, e284_1701, e284_1704, e284_1705, e284_1706, e284_1708, e284_1711, e284_1712, e284_1713, e284_1714, e284_1716, e284_1717, e284_1718, e284_1721, e284_1722, e284_1723, rk_n, rk_v, nl_n, nl_i, nl_r, cat_n, ip_cat_int, ip_cat_ref, ip_cat_long, ip_rf_some, Nat.reduceAdd, Nat.reduceLeDiff, Nat.reduceLT, Nat.le_refl, Nat.zero_le, q1, q2, q3, q4, q5, hk, h1, h2, c189, h3, h4, lg_self, ia_lit, inbL, tnL, Bool.false_eq_true, Bool.true_eq_false, if_true, if_false, not_true_eq_false, not_false_eq_true, zle, eq_self]
  · simp only [e284_1658, e284_1659, e284_1660, e284_1662, e284_1663, e284_1664, e284_1665, e284_1666, e284_1668, e284_1669, e284_1670, e284_1671, e284_1672, e284_1675, e284_1677, e284_1678, e284_1679, e284_1681, e284_1682, e284_1683, e284_1684, e284_1685, e284_1687, e284_1688, e284_1689, e284_1690, e284_1693, e284_1695, e284_1696, e284_1699, e284_1701, e284_1704, e284_1705, e284_1706, e284_1708, e284_1711, e284_1712, e284_1713, e284_1714, e284_1716, e284_1717, e284_1718, e284_1721, e284_1722, e284_1723, rk_n, rk_v, nl_n, nl_i, nl_r, cat_n, ip_cat_int, ip_cat_ref, ip_cat_long, ip_rf_some, Nat.reduceAdd, Nat.reduceLeDiff, Nat.reduceLT, Nat.le_refl, Nat.zero_le, q1, q2, q3, q4, q5, hk, h1, h2, c189, h3, g, Bool.false_eq_true, Bool.true_eq_false, if_true, if_false, not_true_eq_false, not_false_eq_true, zle, eq_self]
theorem tn24 {D : Nat} (hD : 80 ≤ D) : TN D 1726 := by
  intro n I L R nc ns nx T c N w t p l5 l6 x X ⟨q1, q2, q3, q4, q5⟩
  have Y : SAMEX 158 267 [.int (I 0 (x + 1).toNatClampNeg), .int (I 0 (x + 2).toNatClampNeg), .int (I 0 (x + 3).toNatClampNeg)] Int32.toInt64 := S24
  obtain ⟨code, b, I1, I2, L1, L2, R1, nc1, ns1, nx1, T', c', N', w', t', p', h1, h2, h3, h4, h5, h6, h7, h8⟩ := Y n I L R nc ns nx T c N w t p X
  have hk : ∀ j, I1 0 j = I 0 j := kp_cf (h1 0)
  have h1 := h1 (D - 14)
  have h2 := h2 (D - 14)
  rw [show D - 14 + 14 = D by omega] at h1 h2
  simp only [List.cons_append, List.nil_append] at h1
  refine ⟨some (.int code), some (.int b), I2, L2, R1, nc1, ns1, nx1, T', c', N', w', t', p', ?_, h5, h6, h7, h8⟩
  by_cases g : code = 0
  · have h4 := h4 g; subst g
    simp only [e284_1726, e284_1727, e284_1728, e284_1730, e284_1731, e284_1732, e284_1733, e284_1734, e284_1736, e284_1737, e284_1738, e284_1739, e284_1740, e284_1742, e284_1743, e284_1744, e284_1745, e284_1746, e284_1749, e284_1751, e284_1752, e284_1753, e284_1755, e284_1756, e284_1757, e284_1758, e284_1759, e284_1761, e284_1762, e284_1763, e284_1764, e284_1765, e284_1767, e284_1768, e284_1769, e284_1770, e284_1773, e284_1775, e284_1776, e284_1779, e284_1781, e284_1784, e284_1785, e284_1786, e284_1788, e284_1791, e284_1792, e284_1793, e284_1794, e284_1796, e284_1797, e284_1798, e284_1801, e284_1802, e284_1803, rk_n, rk_v, nl_n, nl_i, nl_r, cat_n, ip_cat_int, ip_cat_ref, ip_cat_long, ip_rf_some, Nat.reduceAdd, Nat.reduceLeDiff, Nat.reduceLT, Nat.le_refl, Nat.zero_le, q1, q2, q3, q4, q5, hk, h1, h2, c189, h3, h4, lg_self, ia_lit, inbL, tnL, Bool.false_eq_true, Bool.true_eq_false, if_true, if_false, not_true_eq_false, not_false_eq_true, zle, eq_self]
  · simp only [e284_1726, e284_1727, e284_1728, e284_1730, e284_1731, e284_1732, e284_1733, e284_1734, e284_1736, e284_1737, e284_1738, e284_1739, e284_1740, e284_1742, e284_1743, e284_1744, e284_1745, e284_1746, e284_1749, e284_1751, e284_1752, e284_1753, e284_1755, e284_1756, e284_1757, e284_1758, e284_1759, e284_1761, e284_1762, e284_1763, e284_1764, e284_1765, e284_1767, e284_1768, e284_1769, e284_1770, e284_1773, e284_1775, e284_1776, e284_1779, e284_1781, e284_1784, e284_1785, e284_1786, e284_1788, e284_1791, e284_1792, e284_1793, e284_1794, e284_1796, e284_1797, e284_1798, e284_1801, e284_1802, e284_1803, rk_n, rk_v, nl_n, nl_i, nl_r, cat_n, ip_cat_int, ip_cat_ref, ip_cat_long, ip_rf_some, Nat.reduceAdd, Nat.reduceLeDiff, Nat.reduceLT, Nat.le_refl, Nat.zero_le, q1, q2, q3, q4, q5, hk, h1, h2, c189, h3, g, Bool.false_eq_true, Bool.true_eq_false, if_true, if_false, not_true_eq_false, not_false_eq_true, zle, eq_self]
theorem tn25 {D : Nat} (hD : 80 ≤ D) : TN D 1806 := by
  intro n I L R nc ns nx T c N w t p l5 l6 x X ⟨q1, q2, q3, q4, q5⟩
  have Y : SAMEX 160 268 [.int (I 0 (x + 1).toNatClampNeg), .int (I 0 (x + 2).toNatClampNeg), .int (I 0 (x + 3).toNatClampNeg)] Int32.toInt64 := S25
  obtain ⟨code, b, I1, I2, L1, L2, R1, nc1, ns1, nx1, T', c', N', w', t', p', h1, h2, h3, h4, h5, h6, h7, h8⟩ := Y n I L R nc ns nx T c N w t p X
  have hk : ∀ j, I1 0 j = I 0 j := kp_cf (h1 0)
  have h1 := h1 (D - 14)
  have h2 := h2 (D - 14)
  rw [show D - 14 + 14 = D by omega] at h1 h2
  simp only [List.cons_append, List.nil_append] at h1
  refine ⟨some (.int code), some (.int b), I2, L2, R1, nc1, ns1, nx1, T', c', N', w', t', p', ?_, h5, h6, h7, h8⟩
  by_cases g : code = 0
  · have h4 := h4 g; subst g
    simp only [e284_1806, e284_1807, e284_1808, e284_1810, e284_1811, e284_1812, e284_1813, e284_1814, e284_1816, e284_1817, e284_1818, e284_1819, e284_1820, e284_1822, e284_1823, e284_1824, e284_1825, e284_1826, e284_1829, e284_1831, e284_1832, e284_1833, e284_1835, e284_1836, e284_1837, e284_1838, e284_1839, e284_1841, e284_1842, e284_1843, e284_1844, e284_1845, e284_1847, e284_1848, e284_1849, e284_1850, e284_1853, e284_1855, e284_1856, e284_1859, e284_1861, e284_1864, e284_1865, e284_1866, e284_1868, e284_1871, e284_1872, e284_1873, e284_1874, e284_1876, e284_1877, e284_1878, e284_1881, e284_1882, e284_1883, rk_n, rk_v, nl_n, nl_i, nl_r, cat_n, ip_cat_int, ip_cat_ref, ip_cat_long, ip_rf_some, Nat.reduceAdd, Nat.reduceLeDiff, Nat.reduceLT, Nat.le_refl, Nat.zero_le, q1, q2, q3, q4, q5, hk, h1, h2, c189, h3, h4, lg_self, ia_lit, inbL, tnL, Bool.false_eq_true, Bool.true_eq_false, if_true, if_false, not_true_eq_false, not_false_eq_true, zle, eq_self]
  · simp only [e284_1806, e284_1807, e284_1808, e284_1810, e284_1811, e284_1812, e284_1813, e284_1814, e284_1816, e284_1817, e284_1818, e284_1819, e284_1820, e284_1822, e284_1823, e284_1824, e284_1825, e284_1826, e284_1829, e284_1831, e284_1832, e284_1833, e284_1835, e284_1836, e284_1837, e284_1838, e284_1839, e284_1841, e284_1842, e284_1843, e284_1844, e284_1845, e284_1847, e284_1848, e284_1849, e284_1850, e284_1853, e284_1855, e284_1856, e284_1859, e284_1861, e284_1864, e284_1865, e284_1866, e284_1868, e284_1871, e284_1872, e284_1873, e284_1874, e284_1876, e284_1877, e284_1878, e284_1881, e284_1882, e284_1883, rk_n, rk_v, nl_n, nl_i, nl_r, cat_n, ip_cat_int, ip_cat_ref, ip_cat_long, ip_rf_some, Nat.reduceAdd, Nat.reduceLeDiff, Nat.reduceLT, Nat.le_refl, Nat.zero_le, q1, q2, q3, q4, q5, hk, h1, h2, c189, h3, g, Bool.false_eq_true, Bool.true_eq_false, if_true, if_false, not_true_eq_false, not_false_eq_true, zle, eq_self]
theorem tn26 {D : Nat} (hD : 80 ≤ D) : TN D 1886 := by
  intro n I L R nc ns nx T c N w t p l5 l6 x X ⟨q1, q2, q3, q4, q5⟩
  have Y : SAMEB 21 269 [] := S26
  obtain ⟨b, I1, I2, L1, L2, R1, nc1, ns1, nx1, T', c', N', w', t', p', h1, h2, h5, h6, h7, h8⟩ := Y n I L R nc ns nx T c N w t p X
  have hk : ∀ j, I1 0 j = I 0 j := kp_cf (h1 0)
  have h1 := h1 (D - 14)
  have h2 := h2 (D - 14)
  rw [show D - 14 + 14 = D by omega] at h1 h2
  refine ⟨l5, l6, I2, L2, R1, nc1, ns1, nx1, T', c', N', w', t', p', ?_, h5, h6, h7, h8⟩
  simp only [e284_1886, e284_1887, e284_1890, e284_1891, e284_1894, e284_1897, e284_1898, rk_n, rk_v, nl_n, nl_i, nl_r, cat_n, ip_cat_int, ip_cat_ref, ip_cat_long, ip_rf_some, Nat.reduceAdd, Nat.reduceLeDiff, Nat.reduceLT, Nat.le_refl, Nat.zero_le, q1, q2, q3, q4, q5, hk, h1, h2, Bool.false_eq_true, Bool.true_eq_false, if_true, if_false, not_true_eq_false, not_false_eq_true, zle, eq_self]
theorem tn27 {D : Nat} (hD : 80 ≤ D) : TN D 1899 := by
  intro n I L R nc ns nx T c N w t p l5 l6 x X ⟨q1, q2, q3, q4, q5⟩
  have Y : SAMEB 22 270 [] := S27
  obtain ⟨b, I1, I2, L1, L2, R1, nc1, ns1, nx1, T', c', N', w', t', p', h1, h2, h5, h6, h7, h8⟩ := Y n I L R nc ns nx T c N w t p X
  have hk : ∀ j, I1 0 j = I 0 j := kp_cf (h1 0)
  have h1 := h1 (D - 14)
  have h2 := h2 (D - 14)
  rw [show D - 14 + 14 = D by omega] at h1 h2
  refine ⟨l5, l6, I2, L2, R1, nc1, ns1, nx1, T', c', N', w', t', p', ?_, h5, h6, h7, h8⟩
  simp only [e284_1899, e284_1900, e284_1903, e284_1904, e284_1907, e284_1910, e284_1911, rk_n, rk_v, nl_n, nl_i, nl_r, cat_n, ip_cat_int, ip_cat_ref, ip_cat_long, ip_rf_some, Nat.reduceAdd, Nat.reduceLeDiff, Nat.reduceLT, Nat.le_refl, Nat.zero_le, q1, q2, q3, q4, q5, hk, h1, h2, Bool.false_eq_true, Bool.true_eq_false, if_true, if_false, not_true_eq_false, not_false_eq_true, zle, eq_self]
theorem tn28 {D : Nat} (hD : 80 ≤ D) : TN D 1912 := by
  intro n I L R nc ns nx T c N w t p l5 l6 x X ⟨q1, q2, q3, q4, q5⟩
  have Y : SAMEX 162 271 [.int (I 0 (x + 1).toNatClampNeg)] Int32.toInt64 := S28
  obtain ⟨code, b, I1, I2, L1, L2, R1, nc1, ns1, nx1, T', c', N', w', t', p', h1, h2, h3, h4, h5, h6, h7, h8⟩ := Y n I L R nc ns nx T c N w t p X
  have hk : ∀ j, I1 0 j = I 0 j := kp_cf (h1 0)
  have h1 := h1 (D - 14)
  have h2 := h2 (D - 14)
  rw [show D - 14 + 14 = D by omega] at h1 h2
  simp only [List.cons_append, List.nil_append] at h1
  refine ⟨some (.int code), some (.int b), I2, L2, R1, nc1, ns1, nx1, T', c', N', w', t', p', ?_, h5, h6, h7, h8⟩
  by_cases g : code = 0
  · have h4 := h4 g; subst g
    simp only [e284_1912, e284_1913, e284_1914, e284_1916, e284_1917, e284_1918, e284_1919, e284_1920, e284_1923, e284_1925, e284_1926, e284_1927, e284_1929, e284_1930, e284_1931, e284_1932, e284_1935, e284_1937, e284_1938, e284_1941, e284_1943, e284_1946, e284_1947, e284_1948, e284_1950, e284_1953, e284_1954, e284_1955, e284_1956, e284_1958, e284_1959, e284_1960, e284_1963, e284_1964, e284_1965, rk_n, rk_v, nl_n, nl_i, nl_r, cat_n, ip_cat_int, ip_cat_ref, ip_cat_long, ip_rf_some, Nat.reduceAdd, Nat.reduceLeDiff, Nat.reduceLT, Nat.le_refl, Nat.zero_le, q1, q2, q3, q4, q5, hk, h1, h2, c189, h3, h4, lg_self, ia_lit, inbL, tnL, Bool.false_eq_true, Bool.true_eq_false, if_true, if_false, not_true_eq_false, not_false_eq_true, zle, eq_self]
  · simp only [e284_1912, e284_1913, e284_1914, e284_1916, e284_1917, e284_1918, e284_1919, e284_1920, e284_1923, e284_1925, e284_1926, e284_1927, e284_1929, e284_1930, e284_1931, e284_1932, e284_1935, e284_1937, e284_1938, e284_1941, e284_1943, e284_1946, e284_1947, e284_1948, e284_1950, e284_1953, e284_1954, e284_1955, e284_1956, e284_1958, e284_1959, e284_1960, e284_1963, e284_1964, e284_1965, rk_n, rk_v, nl_n, nl_i, nl_r, cat_n, ip_cat_int, ip_cat_ref, ip_cat_long, ip_rf_some, Nat.reduceAdd, Nat.reduceLeDiff, Nat.reduceLT, Nat.le_refl, Nat.zero_le, q1, q2, q3, q4, q5, hk, h1, h2, c189, h3, g, Bool.false_eq_true, Bool.true_eq_false, if_true, if_false, not_true_eq_false, not_false_eq_true, zle, eq_self]
theorem tn29 {D : Nat} (hD : 80 ≤ D) : TN D 1968 := by
  intro n I L R nc ns nx T c N w t p l5 l6 x X ⟨q1, q2, q3, q4, q5⟩
  have Y : SAMEX 164 272 [.int (I 0 (x + 1).toNatClampNeg)] Int32.toInt64 := S29
  obtain ⟨code, b, I1, I2, L1, L2, R1, nc1, ns1, nx1, T', c', N', w', t', p', h1, h2, h3, h4, h5, h6, h7, h8⟩ := Y n I L R nc ns nx T c N w t p X
  have hk : ∀ j, I1 0 j = I 0 j := kp_cf (h1 0)
  have h1 := h1 (D - 14)
  have h2 := h2 (D - 14)
  rw [show D - 14 + 14 = D by omega] at h1 h2
  simp only [List.cons_append, List.nil_append] at h1
  refine ⟨some (.int code), some (.int b), I2, L2, R1, nc1, ns1, nx1, T', c', N', w', t', p', ?_, h5, h6, h7, h8⟩
  by_cases g : code = 0
  · have h4 := h4 g; subst g
    simp only [e284_1968, e284_1969, e284_1970, e284_1972, e284_1973, e284_1974, e284_1975, e284_1976, e284_1979, e284_1981, e284_1982, e284_1983, e284_1985, e284_1986, e284_1987, e284_1988, e284_1991, e284_1993, e284_1994, e284_1997, e284_1999, e284_2002, e284_2003, e284_2004, e284_2006, e284_2009, e284_2010, e284_2011, e284_2012, e284_2014, e284_2015, e284_2016, e284_2019, e284_2020, e284_2021, rk_n, rk_v, nl_n, nl_i, nl_r, cat_n, ip_cat_int, ip_cat_ref, ip_cat_long, ip_rf_some, Nat.reduceAdd, Nat.reduceLeDiff, Nat.reduceLT, Nat.le_refl, Nat.zero_le, q1, q2, q3, q4, q5, hk, h1, h2, c189, h3, h4, lg_self, ia_lit, inbL, tnL, Bool.false_eq_true, Bool.true_eq_false, if_true, if_false, not_true_eq_false, not_false_eq_true, zle, eq_self]
  · simp only [e284_1968, e284_1969, e284_1970, e284_1972, e284_1973, e284_1974, e284_1975, e284_1976, e284_1979, e284_1981, e284_1982, e284_1983, e284_1985, e284_1986, e284_1987, e284_1988, e284_1991, e284_1993, e284_1994, e284_1997, e284_1999, e284_2002, e284_2003, e284_2004, e284_2006, e284_2009, e284_2010, e284_2011, e284_2012, e284_2014, e284_2015, e284_2016, e284_2019, e284_2020, e284_2021, rk_n, rk_v, nl_n, nl_i, nl_r, cat_n, ip_cat_int, ip_cat_ref, ip_cat_long, ip_rf_some, Nat.reduceAdd, Nat.reduceLeDiff, Nat.reduceLT, Nat.le_refl, Nat.zero_le, q1, q2, q3, q4, q5, hk, h1, h2, c189, h3, g, Bool.false_eq_true, Bool.true_eq_false, if_true, if_false, not_true_eq_false, not_false_eq_true, zle, eq_self]

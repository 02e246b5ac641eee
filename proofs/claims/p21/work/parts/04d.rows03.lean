/-! ===== the check of the rows, group 3 ===== -/
theorem zc_136 : zt_136.all (zRowOk 136) = true := by decide +kernel
theorem zw_136 : ∀ w ∈ zt_136.flatMap (zNds 136), zWd w := zPls_ok [] (by decide +kernel) (by decide +kernel)
theorem zc_137 : zt_137.all (zRowOk 137) = true := by decide +kernel
theorem zw_137 : ∀ w ∈ zt_137.flatMap (zNds 137), zWd w := zPls_ok [1495, 1696, 87, 1694, 1692, 1689, 1789, 1974, 110, 1972, 1973, 1971] (by decide +kernel) (by decide +kernel)
theorem zc_138 : zt_138.all (zRowOk 138) = true := by decide +kernel
theorem zw_138 : ∀ w ∈ zt_138.flatMap (zNds 138), zWd w := zPls_ok [1718, 84, 1717, 1716, 1495, 1573, 87, 1571, 1569, 1565, 1495, 1696, 87, 1694, 1692, 1689, 1789, 1811, 1970, 84, 1969, 57, 1967, 1495, 1696, 87, 1694, 1692, 1689, 1789, 1978, 110, 1976, 1977, 1975, 1994, 84, 1993, 58, 1991, 1997, 84, 1996, 1995, 1495, 1696, 87, 1694, 1692, 1689, 1789, 1809, 2001, 84, 2000, 59, 1998, 1970, 84, 1969, 57, 1967, 1994, 84, 1993, 58, 1991] (by decide +kernel) (by decide +kernel)
theorem zc_139 : zt_139.all (zRowOk 139) = true := by decide +kernel
theorem zw_139 : ∀ w ∈ zt_139.flatMap (zNds 139), zWd w := zPls_ok [1495, 1573, 87, 1571, 1569, 1565, 1495, 1696, 87, 1694, 1692, 1689, 1789, 1811, 1970, 84, 1969, 57, 1967, 1495, 1696, 87, 1694, 1692, 1689, 1789, 1978, 110, 1976, 1977, 1975, 1994, 84, 1993, 58, 1991, 1997, 84, 1996, 1995] (by decide +kernel) (by decide +kernel)
theorem zc_140 : zt_140.all (zRowOk 140) = true := by decide +kernel
theorem zw_140 : ∀ w ∈ zt_140.flatMap (zNds 140), zWd w := zPls_ok [1747, 1966, 84, 1965, 56, 1963] (by decide +kernel) (by decide +kernel)
theorem zc_141 : zt_141.all (zRowOk 141) = true := by decide +kernel
theorem zw_141 : ∀ w ∈ zt_141.flatMap (zNds 141), zWd w := zPls_ok [1502, 1496, 1383, 105, 1381, 1382, 1775, 1496, 1502, 1854, 105, 1852, 1853, 1851, 1502, 1502, 1502, 1496, 1383, 105, 1381, 1382, 1775, 1496, 1502, 1854, 105, 1852, 1853, 1851] (by decide +kernel) (by decide +kernel)
theorem zc_142 : zt_142.all (zRowOk 142) = true := by decide +kernel
theorem zw_142 : ∀ w ∈ zt_142.flatMap (zNds 142), zWd w := zPls_ok [1850, 84, 1849, 43, 1847, 1502, 1502] (by decide +kernel) (by decide +kernel)
theorem zc_143 : zt_143.all (zRowOk 143) = true := by decide +kernel
theorem zw_143 : ∀ w ∈ zt_143.flatMap (zNds 143), zWd w := zPls_ok [] (by decide +kernel) (by decide +kernel)
theorem zc_144 : zt_144.all (zRowOk 144) = true := by decide +kernel
theorem zw_144 : ∀ w ∈ zt_144.flatMap (zNds 144), zWd w := zPls_ok [1850, 84, 1849, 43, 1847, 1503, 1872, 84, 1871, 1870, 1503, 1502, 1502, 1503] (by decide +kernel) (by decide +kernel)
theorem zc_145 : zt_145.all (zRowOk 145) = true := by decide +kernel
theorem zw_145 : ∀ w ∈ zt_145.flatMap (zNds 145), zWd w := zPls_ok [1850, 84, 1849, 43, 1847, 1503, 1872, 84, 1871, 1870, 1503, 1502, 1496, 1383, 105, 1381, 1382, 1775, 1496, 1502, 1854, 105, 1852, 1853, 1851, 1872, 84, 1871, 1870, 1496, 1502, 1854, 105, 1852, 1853, 1851, 1502, 1502, 1503, 1503] (by decide +kernel) (by decide +kernel)
theorem zc_146 : zt_146.all (zRowOk 146) = true := by decide +kernel
theorem zw_146 : ∀ w ∈ zt_146.flatMap (zNds 146), zWd w := zPls_ok [1880, 84, 1879, 46, 1877, 1503, 1503] (by decide +kernel) (by decide +kernel)
theorem zc_147 : zt_147.all (zRowOk 147) = true := by decide +kernel
theorem zw_147 : ∀ w ∈ zt_147.flatMap (zNds 147), zWd w := zPls_ok [1789, 1790, 110, 1793, 110, 1792, 1791, 1502, 1846, 84, 1845, 42, 1843, 1503, 1869, 84, 1868, 44, 1866, 1796, 1503, 1846, 84, 1845, 42, 1843, 1503, 1503, 1850, 84, 1849, 43, 1847, 1872, 84, 1871, 1870, 1869, 84, 1868, 44, 1866, 1503, 1503, 1798, 1798, 1503, 1850, 84, 1849, 43, 1847, 1876, 84, 1875, 45, 1873, 1503, 1846, 84, 1845, 42, 1843, 1503, 1846, 84, 1845, 42, 1843, 1809, 1846, 84, 1845, 42, 1843, 1884, 84, 1883, 47, 1881, 1809, 1880, 84, 1879, 46, 1877, 1809, 1503, 1809, 1503, 1846, 84, 1845, 42, 1843, 1884, 84, 1883, 47, 1881, 1811, 1503, 1850, 84, 1849, 43, 1847, 1503] (by decide +kernel) (by decide +kernel)
theorem zc_148 : zt_148.all (zRowOk 148) = true := by decide +kernel
theorem zw_148 : ∀ w ∈ zt_148.flatMap (zNds 148), zWd w := zPls_ok [1846, 84, 1845, 42, 1843, 1800, 1869, 84, 1868, 44, 1866, 1800, 1846, 84, 1845, 42, 1843, 1802, 1869, 84, 1868, 44, 1866, 1802, 1846, 84, 1845, 42, 1843, 1846, 84, 1845, 42, 1843, 1503, 1808, 1503, 1880, 84, 1879, 46, 1877, 1503, 1804, 1808, 1806, 1808, 1808, 1808] (by decide +kernel) (by decide +kernel)
theorem zc_149 : zt_149.all (zRowOk 149) = true := by decide +kernel
theorem zw_149 : ∀ w ∈ zt_149.flatMap (zNds 149), zWd w := zPls_ok [1486, 1547, 84, 1546, 1545, 1551, 84, 1550, 36, 1548, 1547, 84, 1546, 1545, 1551, 84, 1550, 36, 1548, 1490, 1490] (by decide +kernel) (by decide +kernel)
theorem zc_150 : zt_150.all (zRowOk 150) = true := by decide +kernel
theorem zw_150 : ∀ w ∈ zt_150.flatMap (zNds 150), zWd w := zPls_ok [1486, 1547, 84, 1546, 1545, 1551, 84, 1550, 36, 1548, 1547, 84, 1546, 1545, 1547, 84, 1546, 1545, 1551, 84, 1550, 36, 1548, 1491, 1491, 1491, 1491, 1491] (by decide +kernel) (by decide +kernel)
theorem zc_151 : zt_151.all (zRowOk 151) = true := by decide +kernel
theorem zw_151 : ∀ w ∈ zt_151.flatMap (zNds 151), zWd w := zPls_ok [1486, 1547, 84, 1546, 1545, 1551, 84, 1550, 36, 1548, 1547, 84, 1546, 1545, 1551, 84, 1550, 36, 1548, 1492, 1492] (by decide +kernel) (by decide +kernel)
theorem zc_152 : zt_152.all (zRowOk 152) = true := by decide +kernel
theorem zw_152 : ∀ w ∈ zt_152.flatMap (zNds 152), zWd w := zPls_ok [1486, 1547, 84, 1546, 1545, 1547, 84, 1546, 1545, 1551, 84, 1550, 36, 1548, 1547, 84, 1546, 1545, 1547, 84, 1546, 1545, 1547, 84, 1546, 1545, 1547, 84, 1546, 1545, 1547, 84, 1546, 1545, 1551, 84, 1550, 36, 1548, 1493, 1573, 87, 1571, 1569, 1565, 1551, 84, 1550, 36, 1548, 1493, 1574, 1575, 97, 1487, 1578, 97, 1577, 1576, 1629, 87, 1627, 1625, 1622, 1493, 1573, 87, 1571, 1569, 1565] (by decide +kernel) (by decide +kernel)
theorem zc_153 : zt_153.all (zRowOk 153) = true := by decide +kernel
theorem zw_153 : ∀ w ∈ zt_153.flatMap (zNds 153), zWd w := zPls_ok [1493, 1573, 87, 1571, 1569, 1565, 1547, 84, 1546, 1545] (by decide +kernel) (by decide +kernel)
theorem zc_154 : zt_154.all (zRowOk 154) = true := by decide +kernel
theorem zw_154 : ∀ w ∈ zt_154.flatMap (zNds 154), zWd w := zPls_ok [1486, 1687, 84, 1686, 40, 1684, 1551, 84, 1550, 36, 1548, 1547, 84, 1546, 1545, 1547, 84, 1546, 1545, 1551, 84, 1550, 36, 1548, 1493, 1696, 87, 1694, 1692, 1689, 1574, 1597, 1493, 1696, 87, 1694, 1692, 1689, 1574, 1599, 1493, 1696, 87, 1694, 1692, 1689, 1574, 1708, 97, 1706, 1707, 1705] (by decide +kernel) (by decide +kernel)
theorem zc_155 : zt_155.all (zRowOk 155) = true := by decide +kernel
theorem zw_155 : ∀ w ∈ zt_155.flatMap (zNds 155), zWd w := zPls_ok [1486, 1547, 84, 1546, 1545, 1547, 84, 1546, 1545, 1547, 84, 1546, 1545, 1547, 84, 1546, 1545, 1551, 84, 1550, 36, 1548, 1547, 84, 1546, 1545, 1547, 84, 1546, 1545, 1487, 1547, 84, 1546, 1545, 1551, 84, 1550, 36, 1548, 1494, 1573, 87, 1571, 1569, 1565, 1551, 84, 1550, 36, 1548, 1718, 84, 1717, 1716, 1491, 1494, 1719, 1720, 104, 1487, 1723, 104, 1722, 1721, 1629, 87, 1627, 1625, 1622, 1494, 1573, 87, 1571, 1569, 1565] (by decide +kernel) (by decide +kernel)
theorem zc_156 : zt_156.all (zRowOk 156) = true := by decide +kernel
theorem zw_156 : ∀ w ∈ zt_156.flatMap (zNds 156), zWd w := zPls_ok [1494, 1573, 87, 1571, 1569, 1565, 1547, 84, 1546, 1545] (by decide +kernel) (by decide +kernel)
theorem zc_157 : zt_157.all (zRowOk 157) = true := by decide +kernel
theorem zw_157 : ∀ w ∈ zt_157.flatMap (zNds 157), zWd w := zPls_ok [1495, 1573, 87, 1571, 1569, 1565, 1547, 84, 1546, 1545] (by decide +kernel) (by decide +kernel)
theorem zc_158 : zt_158.all (zRowOk 158) = true := by decide +kernel
theorem zw_158 : ∀ w ∈ zt_158.flatMap (zNds 158), zWd w := zPls_ok [1495, 1696, 87, 1694, 1692, 1689, 1789, 1813] (by decide +kernel) (by decide +kernel)
theorem zc_159 : zt_159.all (zRowOk 159) = true := by decide +kernel
theorem zw_159 : ∀ w ∈ zt_159.flatMap (zNds 159), zWd w := zPls_ok [1486, 1551, 84, 1550, 36, 1548, 1496, 1383, 105, 1381, 1382, 1775, 1551, 84, 1550, 36, 1548, 1776, 1163, 107, 1166, 107, 1165, 1777, 1496, 1369, 107, 1367, 1368, 1778, 1200, 107, 1198, 1199, 1779, 1328, 107, 1326, 1327, 1780, 1496, 1496, 1383, 105, 1381, 1382, 1775] (by decide +kernel) (by decide +kernel)
theorem zc_162 : zt_162.all (zRowOk 162) = true := by decide +kernel
theorem zw_162 : ∀ w ∈ zt_162.flatMap (zNds 162), zWd w := zPls_ok [1486, 1547, 84, 1546, 1545, 1547, 84, 1546, 1545, 1551, 84, 1550, 36, 1548, 1547, 84, 1546, 1545, 1551, 84, 1550, 36, 1548, 1497, 1497, 1497, 1497, 1497] (by decide +kernel) (by decide +kernel)
theorem zc_163 : zt_163.all (zRowOk 163) = true := by decide +kernel
theorem zw_163 : ∀ w ∈ zt_163.flatMap (zNds 163), zWd w := zPls_ok [1486, 1547, 84, 1546, 1545, 1547, 84, 1546, 1545, 1551, 84, 1550, 36, 1548, 1547, 84, 1546, 1545, 1551, 84, 1550, 36, 1548, 1498, 1498] (by decide +kernel) (by decide +kernel)
theorem zc_164 : zt_164.all (zRowOk 164) = true := by decide +kernel
theorem zw_164 : ∀ w ∈ zt_164.flatMap (zNds 164), zWd w := zPls_ok [1486, 1547, 84, 1546, 1545, 1551, 84, 1550, 36, 1548, 1547, 84, 1546, 1545, 1551, 84, 1550, 36, 1548, 1499, 1499] (by decide +kernel) (by decide +kernel)
theorem zc_165 : zt_165.all (zRowOk 165) = true := by decide +kernel
theorem zw_165 : ∀ w ∈ zt_165.flatMap (zNds 165), zWd w := zPls_ok [1486, 1547, 84, 1546, 1545, 1892, 84, 1891, 48, 1889, 1551, 84, 1550, 36, 1548, 1896, 84, 1895, 49, 1893, 1500, 1551, 84, 1550, 36, 1548, 1500, 1500] (by decide +kernel) (by decide +kernel)
theorem zc_166 : zt_166.all (zRowOk 166) = true := by decide +kernel
theorem zw_166 : ∀ w ∈ zt_166.flatMap (zNds 166), zWd w := zPls_ok [1495, 1696, 87, 1694, 1692, 1689, 1789, 1498, 1796, 1809, 1499, 1809] (by decide +kernel) (by decide +kernel)
theorem zc_167 : zt_167.all (zRowOk 167) = true := by decide +kernel
theorem zw_167 : ∀ w ∈ zt_167.flatMap (zNds 167), zWd w := zPls_ok [1937, 84, 1936, 52, 1934, 1500, 1497, 1497] (by decide +kernel) (by decide +kernel)
theorem zc_168 : zt_168.all (zRowOk 168) = true := by decide +kernel
theorem zw_168 : ∀ w ∈ zt_168.flatMap (zNds 168), zWd w := zPls_ok [1933, 84, 1932, 51, 1930] (by decide +kernel) (by decide +kernel)
theorem zc_169 : zt_169.all (zRowOk 169) = true := by decide +kernel
theorem zw_169 : ∀ w ∈ zt_169.flatMap (zNds 169), zWd w := zPls_ok [1486, 1892, 84, 1891, 48, 1889, 1551, 84, 1550, 36, 1548, 1896, 84, 1895, 49, 1893, 1551, 84, 1550, 36, 1548, 1929, 84, 1928, 50, 1926, 1495, 1696, 87, 1694, 1692, 1689, 1789, 1813, 1487, 1815, 1500, 1500, 1498, 1796, 1498, 1796, 681, 99, 680, 1938] (by decide +kernel) (by decide +kernel)
theorem zc_170 : zt_170.all (zRowOk 170) = true := by decide +kernel
theorem zw_170 : ∀ w ∈ zt_170.flatMap (zNds 170), zWd w := zPls_ok [1486, 1892, 84, 1891, 48, 1889, 1551, 84, 1550, 36, 1548, 1495, 1696, 87, 1694, 1692, 1689, 1789, 1813, 1551, 84, 1550, 36, 1548, 1929, 84, 1928, 50, 1926, 1813, 1487, 1817] (by decide +kernel) (by decide +kernel)
theorem zc_171 : zt_171.all (zRowOk 171) = true := by decide +kernel
theorem zw_171 : ∀ w ∈ zt_171.flatMap (zNds 171), zWd w := zPls_ok [1486, 1547, 84, 1546, 1545, 1551, 84, 1550, 36, 1548, 1547, 84, 1546, 1545, 1551, 84, 1550, 36, 1548, 1501, 1501] (by decide +kernel) (by decide +kernel)
theorem zc_172 : zt_172.all (zRowOk 172) = true := by decide +kernel
theorem zw_172 : ∀ w ∈ zt_172.flatMap (zNds 172), zWd w := zPls_ok [1962, 84, 1961, 55, 1959, 2001, 84, 2000, 59, 1998, 1501, 678, 99, 677, 2012, 1547, 84, 1546, 1545, 681, 99, 680, 1938] (by decide +kernel) (by decide +kernel)

/-! ===== the check of the rows, group 3 ===== -/
theorem zc_148_1 : zt_148_1.all (zRowOk 148) = true := by decide +kernel
theorem zw_148_1 : ∀ w ∈ zt_148_1.flatMap (zNds 148), zWd w := zPls_ok2 [1888, 84, 1887, 47, 1885, 1813, 1884, 84, 1883, 46, 1881, 1813, 1503, 1813, 1503, 1850, 84, 1849, 42, 1847, 1888, 84, 1887, 47, 1885, 1815, 1503, 1854, 84, 1853, 43, 1851, 1503] (by decide +kernel) (by decide +kernel)
theorem zc_148 : zt_148.all (zRowOk 148) = true := zAll_app zc_148_0 (zc_148_1)
theorem zw_148 : ∀ w ∈ zt_148.flatMap (zNds 148), zWd w := zFl_app zw_148_0 (zw_148_1)
theorem zc_149 : zt_149.all (zRowOk 149) = true := by decide +kernel
theorem zw_149 : ∀ w ∈ zt_149.flatMap (zNds 149), zWd w := zPls_ok2 [1850, 84, 1849, 42, 1847, 1804, 1873, 84, 1872, 44, 1870, 1804, 1850, 84, 1849, 42, 1847, 1806, 1873, 84, 1872, 44, 1870, 1806, 1850, 84, 1849, 42, 1847, 1850, 84, 1849, 42, 1847, 1503, 1812, 1503, 1884, 84, 1883, 46, 1881, 1503, 1808, 1812, 1810, 1812, 1812, 1812] (by decide +kernel) (by decide +kernel)
theorem zc_150 : zt_150.all (zRowOk 150) = true := by decide +kernel
theorem zw_150 : ∀ w ∈ zt_150.flatMap (zNds 150), zWd w := zPls_ok2 [1486, 1551, 84, 1550, 1549, 1555, 84, 1554, 36, 1552, 1551, 84, 1550, 1549, 1555, 84, 1554, 36, 1552, 1490, 1490] (by decide +kernel) (by decide +kernel)
theorem zc_151 : zt_151.all (zRowOk 151) = true := by decide +kernel
theorem zw_151 : ∀ w ∈ zt_151.flatMap (zNds 151), zWd w := zPls_ok2 [1486, 1551, 84, 1550, 1549, 1555, 84, 1554, 36, 1552, 1551, 84, 1550, 1549, 1551, 84, 1550, 1549, 1555, 84, 1554, 36, 1552, 1491, 1491, 1491, 1491, 1491] (by decide +kernel) (by decide +kernel)
theorem zc_152 : zt_152.all (zRowOk 152) = true := by decide +kernel
theorem zw_152 : ∀ w ∈ zt_152.flatMap (zNds 152), zWd w := zPls_ok2 [1486, 1551, 84, 1550, 1549, 1555, 84, 1554, 36, 1552, 1551, 84, 1550, 1549, 1555, 84, 1554, 36, 1552, 1492, 1492] (by decide +kernel) (by decide +kernel)
theorem zc_153 : zt_153.all (zRowOk 153) = true := by decide +kernel
theorem zw_153 : ∀ w ∈ zt_153.flatMap (zNds 153), zWd w := zPls_ok2 [1486, 1551, 84, 1550, 1549, 1551, 84, 1550, 1549, 1555, 84, 1554, 36, 1552, 1551, 84, 1550, 1549, 1551, 84, 1550, 1549, 1551, 84, 1550, 1549, 1551, 84, 1550, 1549, 1551, 84, 1550, 1549, 1555, 84, 1554, 36, 1552, 1493, 1577, 87, 1575, 1573, 1569, 1555, 84, 1554, 36, 1552, 1493, 1578, 1579, 97, 1487, 1582, 97, 1581, 1580, 1633, 87, 1631, 1629, 1626, 1493, 1577, 87, 1575, 1573, 1569] (by decide +kernel) (by decide +kernel)
theorem zc_154 : zt_154.all (zRowOk 154) = true := by decide +kernel
theorem zw_154 : ∀ w ∈ zt_154.flatMap (zNds 154), zWd w := zPls_ok2 [1493, 1577, 87, 1575, 1573, 1569, 1551, 84, 1550, 1549] (by decide +kernel) (by decide +kernel)
theorem zc_155 : zt_155.all (zRowOk 155) = true := by decide +kernel
theorem zw_155 : ∀ w ∈ zt_155.flatMap (zNds 155), zWd w := zPls_ok2 [1486, 1691, 84, 1690, 40, 1688, 1555, 84, 1554, 36, 1552, 1551, 84, 1550, 1549, 1551, 84, 1550, 1549, 1555, 84, 1554, 36, 1552, 1493, 1700, 87, 1698, 1696, 1693, 1578, 1601, 1493, 1700, 87, 1698, 1696, 1693, 1578, 1603, 1493, 1700, 87, 1698, 1696, 1693, 1578, 1712, 97, 1710, 1711, 1709] (by decide +kernel) (by decide +kernel)
theorem zc_156 : zt_156.all (zRowOk 156) = true := by decide +kernel
theorem zw_156 : ∀ w ∈ zt_156.flatMap (zNds 156), zWd w := zPls_ok2 [1486, 1551, 84, 1550, 1549, 1551, 84, 1550, 1549, 1551, 84, 1550, 1549, 1551, 84, 1550, 1549, 1555, 84, 1554, 36, 1552, 1551, 84, 1550, 1549, 1551, 84, 1550, 1549, 1487, 1551, 84, 1550, 1549, 1555, 84, 1554, 36, 1552, 1494, 1577, 87, 1575, 1573, 1569, 1555, 84, 1554, 36, 1552, 1722, 84, 1721, 1720, 1491, 1494, 1723, 1724, 104, 1487, 1727, 104, 1726, 1725, 1633, 87, 1631, 1629, 1626, 1494, 1577, 87, 1575, 1573, 1569] (by decide +kernel) (by decide +kernel)
theorem zc_157 : zt_157.all (zRowOk 157) = true := by decide +kernel
theorem zw_157 : ∀ w ∈ zt_157.flatMap (zNds 157), zWd w := zPls_ok2 [1494, 1577, 87, 1575, 1573, 1569, 1551, 84, 1550, 1549] (by decide +kernel) (by decide +kernel)
theorem zc_158 : zt_158.all (zRowOk 158) = true := by decide +kernel
theorem zw_158 : ∀ w ∈ zt_158.flatMap (zNds 158), zWd w := zPls_ok2 [1495, 1577, 87, 1575, 1573, 1569, 1551, 84, 1550, 1549] (by decide +kernel) (by decide +kernel)
theorem zc_159 : zt_159.all (zRowOk 159) = true := by decide +kernel
theorem zw_159 : ∀ w ∈ zt_159.flatMap (zNds 159), zWd w := zPls_ok2 [1495, 1700, 87, 1698, 1696, 1693, 1793, 1817] (by decide +kernel) (by decide +kernel)
theorem zc_160 : zt_160.all (zRowOk 160) = true := by decide +kernel
theorem zw_160 : ∀ w ∈ zt_160.flatMap (zNds 160), zWd w := zPls_ok2 [1486, 1555, 84, 1554, 36, 1552, 1496, 1383, 105, 1381, 1382, 1779, 1555, 84, 1554, 36, 1552, 1780, 1163, 107, 1166, 107, 1165, 1781, 1496, 1369, 107, 1367, 1368, 1782, 1200, 107, 1198, 1199, 1783, 1328, 107, 1326, 1327, 1784, 1496, 1496, 1383, 105, 1381, 1382, 1779] (by decide +kernel) (by decide +kernel)
theorem zc_163 : zt_163.all (zRowOk 163) = true := by decide +kernel
theorem zw_163 : ∀ w ∈ zt_163.flatMap (zNds 163), zWd w := zPls_ok2 [1486, 1551, 84, 1550, 1549, 1551, 84, 1550, 1549, 1555, 84, 1554, 36, 1552, 1551, 84, 1550, 1549, 1555, 84, 1554, 36, 1552, 1497, 1497, 1497, 1497, 1497] (by decide +kernel) (by decide +kernel)
theorem zc_164 : zt_164.all (zRowOk 164) = true := by decide +kernel
theorem zw_164 : ∀ w ∈ zt_164.flatMap (zNds 164), zWd w := zPls_ok2 [1486, 1551, 84, 1550, 1549, 1551, 84, 1550, 1549, 1555, 84, 1554, 36, 1552, 1551, 84, 1550, 1549, 1555, 84, 1554, 36, 1552, 1498, 1498] (by decide +kernel) (by decide +kernel)
theorem zc_165 : zt_165.all (zRowOk 165) = true := by decide +kernel
theorem zw_165 : ∀ w ∈ zt_165.flatMap (zNds 165), zWd w := zPls_ok2 [1486, 1551, 84, 1550, 1549, 1555, 84, 1554, 36, 1552, 1551, 84, 1550, 1549, 1555, 84, 1554, 36, 1552, 1499, 1499] (by decide +kernel) (by decide +kernel)
theorem zc_166 : zt_166.all (zRowOk 166) = true := by decide +kernel
theorem zw_166 : ∀ w ∈ zt_166.flatMap (zNds 166), zWd w := zPls_ok2 [1486, 1551, 84, 1550, 1549, 1896, 84, 1895, 48, 1893, 1555, 84, 1554, 36, 1552, 1900, 84, 1899, 49, 1897, 1500, 1555, 84, 1554, 36, 1552, 1500, 1500] (by decide +kernel) (by decide +kernel)
theorem zc_167 : zt_167.all (zRowOk 167) = true := by decide +kernel
theorem zw_167 : ∀ w ∈ zt_167.flatMap (zNds 167), zWd w := zPls_ok2 [1495, 1700, 87, 1698, 1696, 1693, 1793, 1498, 1800, 1813, 1499, 1813] (by decide +kernel) (by decide +kernel)
theorem zc_168 : zt_168.all (zRowOk 168) = true := by decide +kernel
theorem zw_168 : ∀ w ∈ zt_168.flatMap (zNds 168), zWd w := zPls_ok2 [1941, 84, 1940, 52, 1938, 1500, 1497, 1497] (by decide +kernel) (by decide +kernel)
theorem zc_169 : zt_169.all (zRowOk 169) = true := by decide +kernel
theorem zw_169 : ∀ w ∈ zt_169.flatMap (zNds 169), zWd w := zPls_ok2 [1937, 84, 1936, 51, 1934] (by decide +kernel) (by decide +kernel)
theorem zc_170 : zt_170.all (zRowOk 170) = true := by decide +kernel
theorem zw_170 : ∀ w ∈ zt_170.flatMap (zNds 170), zWd w := zPls_ok2 [1486, 1896, 84, 1895, 48, 1893, 1555, 84, 1554, 36, 1552, 1900, 84, 1899, 49, 1897, 1555, 84, 1554, 36, 1552, 1933, 84, 1932, 50, 1930, 1495, 1700, 87, 1698, 1696, 1693, 1793, 1817, 1487, 1819, 1500, 1500, 1498, 1800, 1498, 1800, 681, 99, 680, 1942] (by decide +kernel) (by decide +kernel)
theorem zc_171 : zt_171.all (zRowOk 171) = true := by decide +kernel
theorem zw_171 : ∀ w ∈ zt_171.flatMap (zNds 171), zWd w := zPls_ok2 [1486, 1896, 84, 1895, 48, 1893, 1555, 84, 1554, 36, 1552, 1495, 1700, 87, 1698, 1696, 1693, 1793, 1817, 1555, 84, 1554, 36, 1552, 1933, 84, 1932, 50, 1930, 1817, 1487, 1821] (by decide +kernel) (by decide +kernel)
theorem zc_172 : zt_172.all (zRowOk 172) = true := by decide +kernel
theorem zw_172 : ∀ w ∈ zt_172.flatMap (zNds 172), zWd w := zPls_ok2 [1486, 1551, 84, 1550, 1549, 1555, 84, 1554, 36, 1552, 1551, 84, 1550, 1549, 1555, 84, 1554, 36, 1552, 1501, 1501] (by decide +kernel) (by decide +kernel)
theorem zc_173 : zt_173.all (zRowOk 173) = true := by decide +kernel
theorem zw_173 : ∀ w ∈ zt_173.flatMap (zNds 173), zWd w := zPls_ok2 [1966, 84, 1965, 55, 1963, 2005, 84, 2004, 59, 2002, 1501, 678, 99, 677, 2016, 1551, 84, 1550, 1549, 681, 99, 680, 1942] (by decide +kernel) (by decide +kernel)
theorem zc_174 : zt_174.all (zRowOk 174) = true := by decide +kernel
theorem zw_174 : ∀ w ∈ zt_174.flatMap (zNds 174), zWd w := zPls_ok2 [1486, 1958, 84, 1957, 53, 1955, 1551, 84, 1550, 1549, 1555, 84, 1554, 36, 1552, 1494, 1700, 87, 1698, 1696, 1693, 1723, 1753, 1555, 84, 1554, 36, 1552, 1962, 84, 1961, 54, 1959, 1755, 1753, 1755] (by decide +kernel) (by decide +kernel)
theorem zc_175 : zt_175.all (zRowOk 175) = true := by decide +kernel
theorem zw_175 : ∀ w ∈ zt_175.flatMap (zNds 175), zWd w := zPls_ok2 [1486, 1958, 84, 1957, 53, 1955, 1555, 84, 1554, 36, 1552, 1494, 1700, 87, 1698, 1696, 1693, 1723, 1753, 1555, 84, 1554, 36, 1552, 1488, 1755, 1966, 84, 1965, 55, 1963, 1488, 1966, 84, 1965, 55, 1963, 1755, 1755] (by decide +kernel) (by decide +kernel)
theorem zc_176 : zt_176.all (zRowOk 176) = true := by decide +kernel
theorem zw_176 : ∀ w ∈ zt_176.flatMap (zNds 176), zWd w := zPls_ok2 [1486, 1551, 84, 1550, 1549, 1555, 84, 1554, 36, 1552, 1487, 1555, 84, 1554, 36, 1552, 1487, 1487, 1487] (by decide +kernel) (by decide +kernel)
theorem zc_177 : zt_177.all (zRowOk 177) = true := by decide +kernel
theorem zw_177 : ∀ w ∈ zt_177.flatMap (zNds 177), zWd w := zPls_ok2 [1486, 1489, 1489, 1489] (by decide +kernel) (by decide +kernel)
theorem zc_178 : zt_178.all (zRowOk 178) = true := by decide +kernel
theorem zw_178 : ∀ w ∈ zt_178.flatMap (zNds 178), zWd w := zPls_ok2 [1486, 1551, 84, 1550, 1549, 1551, 84, 1550, 1549, 1555, 84, 1554, 36, 1552, 1491] (by decide +kernel) (by decide +kernel)
theorem zc_179 : zt_179.all (zRowOk 179) = true := by decide +kernel
theorem zw_179 : ∀ w ∈ zt_179.flatMap (zNds 179), zWd w := zPls_ok2 [1493, 1700, 87, 1698, 1696, 1693, 1578, 1494, 1577, 87, 1575, 1573, 1569, 1494, 1700, 87, 1698, 1696, 1693, 1723, 1730, 1585, 1494, 1700, 87, 1698, 1696, 1693, 1723, 2013, 97, 2011, 2012, 2010, 180, 1585, 1587, 1589, 1591, 1593, 1595, 1597, 1601, 1603, 1599, 1712, 97, 1710, 1711, 1709] (by decide +kernel) (by decide +kernel)
theorem zc_180 : zt_180.all (zRowOk 180) = true := by decide +kernel
theorem zw_180 : ∀ w ∈ zt_180.flatMap (zNds 180), zWd w := zPls_ok2 [1486, 1691, 84, 1690, 40, 1688, 1555, 84, 1554, 36, 1552, 1551, 84, 1550, 1549, 1555, 84, 1554, 36, 1552, 2040, 84, 2039, 61, 2037] (by decide +kernel) (by decide +kernel)
theorem zc_181 : zt_181.all (zRowOk 181) = true := by decide +kernel
theorem zw_181 : ∀ w ∈ zt_181.flatMap (zNds 181), zWd w := zPls_ok2 [1494, 1700, 87, 1698, 1696, 1693, 1723, 180, 1730, 1732, 1736, 1740, 1744, 1748, 1751, 1730, 2009, 84, 2008, 60, 2006, 1732, 2009, 84, 2008, 60, 2006, 2005, 84, 2004, 59, 2002, 1966, 84, 1965, 55, 1963, 1487, 2052, 104, 2050, 2051, 2049, 1966, 84, 1965, 55, 1963, 1753, 1755] (by decide +kernel) (by decide +kernel)
theorem zc_182 : zt_182.all (zRowOk 182) = true := by decide +kernel
theorem zw_182 : ∀ w ∈ zt_182.flatMap (zNds 182), zWd w := zPls_ok2 [1486, 1958, 84, 1957, 53, 1955, 1555, 84, 1554, 36, 1552, 1551, 84, 1550, 1549, 1555, 84, 1554, 36, 1552, 2048, 84, 2047, 62, 2045] (by decide +kernel) (by decide +kernel)
theorem zc_183 : zt_183.all (zRowOk 183) = true := by decide +kernel
theorem zw_183 : ∀ w ∈ zt_183.flatMap (zNds 183), zWd w := zPls_ok2 [1486, 1958, 84, 1957, 53, 1955, 1896, 84, 1895, 48, 1893, 1555, 84, 1554, 36, 1552, 1494, 1700, 87, 1698, 1696, 1693, 1723, 1751, 1998, 84, 1997, 58, 1995] (by decide +kernel) (by decide +kernel)
theorem zc_184 : zt_184.all (zRowOk 184) = true := by decide +kernel
theorem zw_184 : ∀ w ∈ zt_184.flatMap (zNds 184), zWd w := zPls_ok2 [1495, 1700, 87, 1698, 1696, 1693, 1793, 1495, 1577, 87, 1575, 1573, 1569, 1495, 1700, 87, 1698, 1696, 1693, 1793, 1815, 180, 1800, 1802, 1804, 1806, 1987, 110, 1985, 1986, 2067, 1992, 110, 1990, 1991, 2068, 1813, 1815, 1817, 1819, 1821, 1487, 1978, 110, 1976, 1977, 1975] (by decide +kernel) (by decide +kernel)
theorem zc_185 : zt_185.all (zRowOk 185) = true := by decide +kernel
theorem zw_185 : ∀ w ∈ zt_185.flatMap (zNds 185), zWd w := zPls_ok2 [1486, 1896, 84, 1895, 48, 1893, 1555, 84, 1554, 36, 1552, 1551, 84, 1550, 1549, 1555, 84, 1554, 36, 1552, 2066, 84, 2065, 63, 2063] (by decide +kernel) (by decide +kernel)
theorem zc_186 : zt_186.all (zRowOk 186) = true := by decide +kernel
theorem zw_186 : ∀ w ∈ zt_186.flatMap (zNds 186), zWd w := zPls_ok2 [1486, 1551, 84, 1550, 1549, 1896, 84, 1895, 48, 1893, 1555, 84, 1554, 36, 1552, 1941, 84, 1940, 52, 1938] (by decide +kernel) (by decide +kernel)
theorem zc_187 : zt_187.all (zRowOk 187) = true := by decide +kernel
theorem zw_187 : ∀ w ∈ zt_187.flatMap (zNds 187), zWd w := zPls_ok2 [1498, 1499, 1500, 1497] (by decide +kernel) (by decide +kernel)
theorem zc_188 : zt_188.all (zRowOk 188) = true := by decide +kernel
theorem zw_188 : ∀ w ∈ zt_188.flatMap (zNds 188), zWd w := zPls_ok2 [1486, 1551, 84, 1550, 1549, 1555, 84, 1554, 36, 1552, 1551, 84, 1550, 1549, 1555, 84, 1554, 36, 1552, 2080, 84, 2079, 64, 2077] (by decide +kernel) (by decide +kernel)
theorem zc_189 : zt_189.all (zRowOk 189) = true := by decide +kernel
theorem zw_189 : ∀ w ∈ zt_189.flatMap (zNds 189), zWd w := zPls_ok2 [2093, 1495, 1577, 87, 1575, 1573, 1569, 1495, 1700, 87, 1698, 1696, 1693, 1793, 1812, 1800, 1817, 1810, 1808, 180] (by decide +kernel) (by decide +kernel)

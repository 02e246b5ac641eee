/-! ===== the check of the rows, group 8 ===== -/
theorem zc_153 : zt_153.all (zRowOk 153) = true := by decide +kernel
theorem zw_153 : ∀ w ∈ zt_153.flatMap (zNds 153), zWd w := zPls_ok [1493, 1573, 87, 1571, 1569, 1565, 1547, 84, 1546, 1545] (by decide +kernel) (by decide +kernel)
theorem zc_154 : zt_154.all (zRowOk 154) = true := by decide +kernel
theorem zw_154 : ∀ w ∈ zt_154.flatMap (zNds 154), zWd w := zPls_ok [1486, 1687, 84, 1686, 40, 1684, 1551, 84, 1550, 36, 1548, 1547, 84, 1546, 1545, 1547, 84, 1546, 1545, 1551, 84, 1550, 36, 1548, 1493, 1696, 87, 1694, 1692, 1689, 1574, 1597, 1493, 1696, 87, 1694, 1692, 1689, 1574, 1599, 1493, 1696, 87, 1694, 1692, 1689, 1574, 1708, 97, 1706, 1707, 1705] (by decide +kernel) (by decide +kernel)
theorem zc_155 : zt_155.all (zRowOk 155) = true := by decide +kernel
theorem zw_155 : ∀ w ∈ zt_155.flatMap (zNds 155), zWd w := zPls_ok [1486, 1547, 84, 1546, 1545, 1547, 84, 1546, 1545, 1547, 84, 1546, 1545, 1547, 84, 1546, 1545, 1551, 84, 1550, 36, 1548, 1547, 84, 1546, 1545, 1547, 84, 1546, 1545, 1487, 1547, 84, 1546, 1545, 1551, 84, 1550, 36, 1548, 1494, 1573, 87, 1571, 1569, 1565, 1551, 84, 1550, 36, 1548, 1718, 84, 1717, 1716, 1491, 1494, 1719, 1720, 104, 1487, 1723, 104, 1722, 1721, 1629, 87, 1627, 1625, 1622, 1494, 1573, 87, 1571, 1569, 1565] (by decide +kernel) (by decide +kernel)
theorem zc_156 : zt_156.all (zRowOk 156) = true := by decide +kernel
theorem zw_156 : ∀ w ∈ zt_156.flatMap (zNds 156), zWd w := zPls_ok [1494, 1573, 87, 1571, 1569, 1565, 1547, 84, 1546, 1545] (by decide +kernel) (by decide +kernel)
theorem zc_157 : zt_157.all (zRowOk 157) = true := by decide +kernel
theorem zw_157 : ∀ w ∈ zt_157.flatMap (zNds 157), zWd w := zPls_ok [1495, 1573, 87, 1571, 1569, 1565, 1547, 84, 1546, 1545] (by decide +kernel) (by decide +kernel)
theorem zc_158 : zt_158.all (zRowOk 158) = true := by decide +kernel
theorem zw_158 : ∀ w ∈ zt_158.flatMap (zNds 158), zWd w := zPls_ok [1495, 1696, 87, 1694, 1692, 1689, 1789, 1813] (by decide +kernel) (by decide +kernel)
theorem zc_159 : zt_159.all (zRowOk 159) = true := by decide +kernel
theorem zw_159 : ∀ w ∈ zt_159.flatMap (zNds 159), zWd w := zPls_ok [1486, 1551, 84, 1550, 36, 1548, 1496, 1383, 105, 1381, 1382, 1775, 1551, 84, 1550, 36, 1548, 1776, 1163, 107, 1166, 107, 1165, 1777, 1496, 1369, 107, 1367, 1368, 1778, 1200, 107, 1198, 1199, 1779, 1328, 107, 1326, 1327, 1780, 1496, 1496, 1383, 105, 1381, 1382, 1775] (by decide +kernel) (by decide +kernel)
theorem zc_162 : zt_162.all (zRowOk 162) = true := by decide +kernel
theorem zw_162 : ∀ w ∈ zt_162.flatMap (zNds 162), zWd w := zPls_ok [1486, 1547, 84, 1546, 1545, 1547, 84, 1546, 1545, 1551, 84, 1550, 36, 1548, 1547, 84, 1546, 1545, 1551, 84, 1550, 36, 1548, 1497, 1497, 1497, 1497, 1497] (by decide +kernel) (by decide +kernel)
theorem zc_163 : zt_163.all (zRowOk 163) = true := by decide +kernel
theorem zw_163 : ∀ w ∈ zt_163.flatMap (zNds 163), zWd w := zPls_ok [1486, 1547, 84, 1546, 1545, 1547, 84, 1546, 1545, 1551, 84, 1550, 36, 1548, 1547, 84, 1546, 1545, 1551, 84, 1550, 36, 1548, 1498, 1498] (by decide +kernel) (by decide +kernel)
theorem zc_164 : zt_164.all (zRowOk 164) = true := by decide +kernel
theorem zw_164 : ∀ w ∈ zt_164.flatMap (zNds 164), zWd w := zPls_ok [1486, 1547, 84, 1546, 1545, 1551, 84, 1550, 36, 1548, 1547, 84, 1546, 1545, 1551, 84, 1550, 36, 1548, 1499, 1499] (by decide +kernel) (by decide +kernel)
theorem zc_165 : zt_165.all (zRowOk 165) = true := by decide +kernel
theorem zw_165 : ∀ w ∈ zt_165.flatMap (zNds 165), zWd w := zPls_ok [1486, 1547, 84, 1546, 1545, 1892, 84, 1891, 48, 1889, 1551, 84, 1550, 36, 1548, 1896, 84, 1895, 49, 1893, 1500, 1551, 84, 1550, 36, 1548, 1500, 1500] (by decide +kernel) (by decide +kernel)
theorem zc_166 : zt_166.all (zRowOk 166) = true := by decide +kernel
theorem zw_166 : ∀ w ∈ zt_166.flatMap (zNds 166), zWd w := zPls_ok [1495, 1696, 87, 1694, 1692, 1689, 1789, 1498, 1796, 1809, 1499, 1809] (by decide +kernel) (by decide +kernel)
theorem zc_167 : zt_167.all (zRowOk 167) = true := by decide +kernel
theorem zw_167 : ∀ w ∈ zt_167.flatMap (zNds 167), zWd w := zPls_ok [1937, 84, 1936, 52, 1934, 1500, 1497, 1497] (by decide +kernel) (by decide +kernel)
theorem zc_168 : zt_168.all (zRowOk 168) = true := by decide +kernel
theorem zw_168 : ∀ w ∈ zt_168.flatMap (zNds 168), zWd w := zPls_ok [1933, 84, 1932, 51, 1930] (by decide +kernel) (by decide +kernel)
theorem zc_169 : zt_169.all (zRowOk 169) = true := by decide +kernel
theorem zw_169 : ∀ w ∈ zt_169.flatMap (zNds 169), zWd w := zPls_ok [1486, 1892, 84, 1891, 48, 1889, 1551, 84, 1550, 36, 1548, 1896, 84, 1895, 49, 1893, 1551, 84, 1550, 36, 1548, 1929, 84, 1928, 50, 1926, 1495, 1696, 87, 1694, 1692, 1689, 1789, 1813, 1487, 1815, 1500, 1500, 1498, 1796, 1498, 1796, 681, 99, 680, 1938] (by decide +kernel) (by decide +kernel)
theorem zc_170 : zt_170.all (zRowOk 170) = true := by decide +kernel
theorem zw_170 : ∀ w ∈ zt_170.flatMap (zNds 170), zWd w := zPls_ok [1486, 1892, 84, 1891, 48, 1889, 1551, 84, 1550, 36, 1548, 1495, 1696, 87, 1694, 1692, 1689, 1789, 1813, 1551, 84, 1550, 36, 1548, 1929, 84, 1928, 50, 1926, 1813, 1487, 1817] (by decide +kernel) (by decide +kernel)

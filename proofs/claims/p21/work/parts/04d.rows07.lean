/-! ===== the check of the rows, group 7 ===== -/
theorem zc_139 : zt_139.all (zRowOk 139) = true := by decide +kernel
theorem zw_139 : ∀ w ∈ zt_139.flatMap (zNds 139), zWd w := zPls_ok [1495, 1573, 87, 1571, 1569, 1565, 1495, 1696, 87, 1694, 1692, 1689, 1789, 1811, 1970, 84, 1969, 57, 1967, 1495, 1696, 87, 1694, 1692, 1689, 1789, 1978, 110, 1976, 1977, 1975, 1994, 84, 1993, 58, 1991, 1997, 84, 1996, 1995] (by decide +kernel) (by decide +kernel)
theorem zc_140 : zt_140.all (zRowOk 140) = true := by decide +kernel
theorem zw_140 : ∀ w ∈ zt_140.flatMap (zNds 140), zWd w := zPls_ok [1747, 1966, 84, 1965, 56, 1963] (by decide +kernel) (by decide +kernel)
theorem zc_141 : zt_141.all (zRowOk 141) = true := by decide +kernel
theorem zw_141 : ∀ w ∈ zt_141.flatMap (zNds 141), zWd w := zPls_ok [1502, 1496, 1383, 105, 1381, 1382, 1775, 1496, 1502, 1854, 105, 1852, 1853, 1851, 1502, 1502, 1502, 1496, 1383, 105, 1381, 1382, 1775, 1496, 1502, 1854, 105, 1852, 1853, 1851] (by decide +kernel) (by decide +kernel)
theorem zc_142 : zt_142.all (zRowOk 142) = true := by decide +kernel
theorem zw_142 : ∀ w ∈ zt_142.flatMap (zNds 142), zWd w := zPls_ok [1850, 84, 1849, 43, 1847, 1502, 1502] (by decide +kernel) (by decide +kernel)
theorem zc_143 : zt_143.all (zRowOk 143) = true := by decide +kernel
theorem zw_143 : ∀ w ∈ zt_143.flatMap (zNds 143), zWd w := zPls_ok [] (by decide +kernel) (by decide +kernel)
theorem zc_144 : zt_144.all (zRowOk 144) = true := by decide +kernel
theorem zw_144 : ∀ w ∈ zt_144.flatMap (zNds 144), zWd w := zPls_ok [1850, 84, 1849, 43, 1847, 1503, 1872, 84, 1871, 1870, 1503, 1502, 1502, 1503] (by decide +kernel) (by decide +kernel)
theorem zc_145 : zt_145.all (zRowOk 145) = true := by decide +kernel
theorem zw_145 : ∀ w ∈ zt_145.flatMap (zNds 145), zWd w := zPls_ok [1850, 84, 1849, 43, 1847, 1503, 1872, 84, 1871, 1870, 1503, 1502, 1496, 1383, 105, 1381, 1382, 1775, 1496, 1502, 1854, 105, 1852, 1853, 1851, 1872, 84, 1871, 1870, 1496, 1502, 1854, 105, 1852, 1853, 1851, 1502, 1502, 1503, 1503] (by decide +kernel) (by decide +kernel)
theorem zc_146 : zt_146.all (zRowOk 146) = true := by decide +kernel
theorem zw_146 : ∀ w ∈ zt_146.flatMap (zNds 146), zWd w := zPls_ok [1880, 84, 1879, 46, 1877, 1503, 1503] (by decide +kernel) (by decide +kernel)
theorem zc_147_0 : zt_147_0.all (zRowOk 147) = true := by decide +kernel
theorem zw_147_0 : ∀ w ∈ zt_147_0.flatMap (zNds 147), zWd w := zPls_ok [1789, 1790, 110, 1793, 110, 1792, 1791, 1502, 1846, 84, 1845, 42, 1843, 1503, 1869, 84, 1868, 44, 1866, 1796, 1503, 1846, 84, 1845, 42, 1843, 1503, 1503, 1850, 84, 1849, 43, 1847, 1872, 84, 1871, 1870, 1869, 84, 1868, 44, 1866, 1503, 1503, 1798, 1798, 1503, 1850, 84, 1849, 43, 1847, 1876, 84, 1875, 45, 1873, 1503, 1846, 84, 1845, 42, 1843, 1503, 1846, 84, 1845, 42, 1843, 1809, 1846, 84, 1845, 42, 1843] (by decide +kernel) (by decide +kernel)
theorem zc_147_1 : zt_147_1.all (zRowOk 147) = true := by decide +kernel
theorem zw_147_1 : ∀ w ∈ zt_147_1.flatMap (zNds 147), zWd w := zPls_ok [1884, 84, 1883, 47, 1881, 1809, 1880, 84, 1879, 46, 1877, 1809, 1503, 1809, 1503, 1846, 84, 1845, 42, 1843, 1884, 84, 1883, 47, 1881, 1811, 1503, 1850, 84, 1849, 43, 1847, 1503] (by decide +kernel) (by decide +kernel)
theorem zc_147 : zt_147.all (zRowOk 147) = true := zAll_app zc_147_0 (zc_147_1)
theorem zw_147 : ∀ w ∈ zt_147.flatMap (zNds 147), zWd w := zFl_app zw_147_0 (zw_147_1)
theorem zc_148 : zt_148.all (zRowOk 148) = true := by decide +kernel
theorem zw_148 : ∀ w ∈ zt_148.flatMap (zNds 148), zWd w := zPls_ok [1846, 84, 1845, 42, 1843, 1800, 1869, 84, 1868, 44, 1866, 1800, 1846, 84, 1845, 42, 1843, 1802, 1869, 84, 1868, 44, 1866, 1802, 1846, 84, 1845, 42, 1843, 1846, 84, 1845, 42, 1843, 1503, 1808, 1503, 1880, 84, 1879, 46, 1877, 1503, 1804, 1808, 1806, 1808, 1808, 1808] (by decide +kernel) (by decide +kernel)
theorem zc_149 : zt_149.all (zRowOk 149) = true := by decide +kernel
theorem zw_149 : ∀ w ∈ zt_149.flatMap (zNds 149), zWd w := zPls_ok [1486, 1547, 84, 1546, 1545, 1551, 84, 1550, 36, 1548, 1547, 84, 1546, 1545, 1551, 84, 1550, 36, 1548, 1490, 1490] (by decide +kernel) (by decide +kernel)
theorem zc_150 : zt_150.all (zRowOk 150) = true := by decide +kernel
theorem zw_150 : ∀ w ∈ zt_150.flatMap (zNds 150), zWd w := zPls_ok [1486, 1547, 84, 1546, 1545, 1551, 84, 1550, 36, 1548, 1547, 84, 1546, 1545, 1547, 84, 1546, 1545, 1551, 84, 1550, 36, 1548, 1491, 1491, 1491, 1491, 1491] (by decide +kernel) (by decide +kernel)
theorem zc_151 : zt_151.all (zRowOk 151) = true := by decide +kernel
theorem zw_151 : ∀ w ∈ zt_151.flatMap (zNds 151), zWd w := zPls_ok [1486, 1547, 84, 1546, 1545, 1551, 84, 1550, 36, 1548, 1547, 84, 1546, 1545, 1551, 84, 1550, 36, 1548, 1492, 1492] (by decide +kernel) (by decide +kernel)
theorem zc_152 : zt_152.all (zRowOk 152) = true := by decide +kernel
theorem zw_152 : ∀ w ∈ zt_152.flatMap (zNds 152), zWd w := zPls_ok [1486, 1547, 84, 1546, 1545, 1547, 84, 1546, 1545, 1551, 84, 1550, 36, 1548, 1547, 84, 1546, 1545, 1547, 84, 1546, 1545, 1547, 84, 1546, 1545, 1547, 84, 1546, 1545, 1547, 84, 1546, 1545, 1551, 84, 1550, 36, 1548, 1493, 1573, 87, 1571, 1569, 1565, 1551, 84, 1550, 36, 1548, 1493, 1574, 1575, 97, 1487, 1578, 97, 1577, 1576, 1629, 87, 1627, 1625, 1622, 1493, 1573, 87, 1571, 1569, 1565] (by decide +kernel) (by decide +kernel)

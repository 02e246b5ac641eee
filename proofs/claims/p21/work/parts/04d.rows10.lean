/-! ===== the check of the rows, group 10 ===== -/
theorem zc_185 : zt_185.all (zRowOk 185) = true := by decide +kernel
theorem zw_185 : ∀ w ∈ zt_185.flatMap (zNds 185), zWd w := zPls_ok [1486, 1547, 84, 1546, 1545, 1892, 84, 1891, 48, 1889, 1551, 84, 1550, 36, 1548, 1937, 84, 1936, 52, 1934] (by decide +kernel) (by decide +kernel)
theorem zc_186 : zt_186.all (zRowOk 186) = true := by decide +kernel
theorem zw_186 : ∀ w ∈ zt_186.flatMap (zNds 186), zWd w := zPls_ok [1498, 1499, 1500, 1497] (by decide +kernel) (by decide +kernel)
theorem zc_187 : zt_187.all (zRowOk 187) = true := by decide +kernel
theorem zw_187 : ∀ w ∈ zt_187.flatMap (zNds 187), zWd w := zPls_ok [1486, 1547, 84, 1546, 1545, 1551, 84, 1550, 36, 1548, 1547, 84, 1546, 1545, 1551, 84, 1550, 36, 1548, 2076, 84, 2075, 64, 2073] (by decide +kernel) (by decide +kernel)
theorem zc_188 : zt_188.all (zRowOk 188) = true := by decide +kernel
theorem zw_188 : ∀ w ∈ zt_188.flatMap (zNds 188), zWd w := zPls_ok [2089, 1495, 1573, 87, 1571, 1569, 1565, 1495, 1696, 87, 1694, 1692, 1689, 1789, 1808, 1796, 1813, 1806, 1804, 180] (by decide +kernel) (by decide +kernel)
theorem zc_189_0 : zt_189_0.all (zRowOk 189) = true := by decide +kernel
theorem zw_189_0 : ∀ w ∈ zt_189_0.flatMap (zNds 189), zWd w := zPls_ok [2088, 84, 2087, 66, 2085, 180, 1719, 1720, 104, 1487, 1723, 104, 1722, 1721, 1732, 1740, 1744, 1487, 1966, 84, 1965, 56, 1963, 1487, 1966, 84, 1965, 56, 1963] (by decide +kernel) (by decide +kernel)
theorem zc_189_1 : zt_189_1.all (zRowOk 189) = true := by decide +kernel
theorem zw_189_1 : ∀ w ∈ zt_189_1.flatMap (zNds 189), zWd w := zPls_ok [681, 99, 680, 1938] (by decide +kernel) (by decide +kernel)
theorem zc_189 : zt_189.all (zRowOk 189) = true := zAll_app zc_189_0 (zc_189_1)
theorem zw_189 : ∀ w ∈ zt_189.flatMap (zNds 189), zWd w := zFl_app zw_189_0 (zw_189_1)
theorem zc_190 : zt_190.all (zRowOk 190) = true := by decide +kernel
theorem zw_190 : ∀ w ∈ zt_190.flatMap (zNds 190), zWd w := zPls_ok [1486, 1547, 84, 1546, 1545, 1547, 84, 1546, 1545, 1551, 84, 1550, 36, 1548, 1547, 84, 1546, 1545, 1551, 84, 1550, 36, 1548, 2084, 84, 2083, 65, 2081] (by decide +kernel) (by decide +kernel)
theorem zc_191 : zt_191.all (zRowOk 191) = true := by decide +kernel
theorem zw_191 : ∀ w ∈ zt_191.flatMap (zNds 191), zWd w := zPls_ok [1486, 1892, 84, 1891, 48, 1889, 1547, 84, 1546, 1545, 1551, 84, 1550, 36, 1548, 1495, 1696, 87, 1694, 1692, 1689, 1789, 1796, 2084, 84, 2083, 65, 2081] (by decide +kernel) (by decide +kernel)
theorem zc_192 : zt_192.all (zRowOk 192) = true := by decide +kernel
theorem zw_192 : ∀ w ∈ zt_192.flatMap (zNds 192), zWd w := zPls_ok [1494, 1573, 87, 1571, 1569, 1565, 1494, 1696, 87, 1694, 1692, 1689, 1719, 1732, 1744, 1487, 2048, 104, 2046, 2047, 2045, 1962, 84, 1961, 55, 1959, 681, 99, 680, 1938, 1744, 2001, 84, 2000, 59, 1998, 681, 99, 680, 1938] (by decide +kernel) (by decide +kernel)
theorem zc_193 : zt_193.all (zRowOk 193) = true := by decide +kernel
theorem zw_193 : ∀ w ∈ zt_193.flatMap (zNds 193), zWd w := zPls_ok [1486, 1547, 84, 1546, 1545, 1551, 84, 1550, 36, 1548, 2101, 84, 2100, 67, 2098] (by decide +kernel) (by decide +kernel)
theorem zc_194 : zt_194.all (zRowOk 194) = true := by decide +kernel
theorem zw_194 : ∀ w ∈ zt_194.flatMap (zNds 194), zWd w := zPls_ok [180, 1719, 1720, 104, 1487, 1723, 104, 1722, 1721, 2005, 84, 2004, 60, 2002, 1490] (by decide +kernel) (by decide +kernel)
theorem zc_195 : zt_195.all (zRowOk 195) = true := by decide +kernel
theorem zw_195 : ∀ w ∈ zt_195.flatMap (zNds 195), zWd w := zPls_ok [1486, 1547, 84, 1546, 1545, 1547, 84, 1546, 1545, 1551, 84, 1550, 36, 1548, 1547, 84, 1546, 1545, 1547, 84, 1546, 1545, 1547, 84, 1546, 1545, 1551, 84, 1550, 36, 1548, 2109, 84, 2108, 68, 2106] (by decide +kernel) (by decide +kernel)

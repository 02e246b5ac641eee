/-! ===== the check of the rows, group 11 ===== -/
theorem zc_196 : zt_196.all (zRowOk 196) = true := by decide +kernel
theorem zw_196 : ∀ w ∈ zt_196.flatMap (zNds 196), zWd w := zPls_ok [1494, 1573, 87, 1571, 1569, 1565, 1494, 1696, 87, 1694, 1692, 1689, 1719, 1494, 1696, 87, 1694, 1692, 1689, 1719, 1749, 1749, 1736, 1736, 1732, 1732, 1740, 1740, 1751, 1751] (by decide +kernel) (by decide +kernel)
theorem zc_197 : zt_197.all (zRowOk 197) = true := by decide +kernel
theorem zw_197 : ∀ w ∈ zt_197.flatMap (zNds 197), zWd w := zPls_ok [1486, 2117, 84, 2116, 69, 2114] (by decide +kernel) (by decide +kernel)
theorem zc_198_0 : zt_198_0.all (zRowOk 198) = true := by decide +kernel
theorem zw_198_0 : ∀ w ∈ zt_198_0.flatMap (zNds 198), zWd w := zPls_ok [180, 1495, 1573, 87, 1571, 1569, 1565, 1495, 1696, 87, 1694, 1692, 1689, 1789, 1813, 1495, 1696, 87, 1694, 1692, 1689, 1789, 1487, 1974, 110, 1972, 1973, 1971, 1494, 1573, 87, 1571, 1569, 1565, 1494, 1696, 87, 1694, 1692, 1689, 1719, 1749, 1494, 1696, 87, 1694, 1692, 1689, 1719, 1962, 84, 1961, 55, 1959, 1494, 1696, 87, 1694, 1692, 1689, 1719, 2001, 84, 2000, 59, 1998, 180, 1487, 1493, 1573, 87, 1571, 1569, 1565, 1494, 1573, 87, 1571, 1569, 1565] (by decide +kernel) (by decide +kernel)
theorem zc_198_1 : zt_198_1.all (zRowOk 198) = true := by decide +kernel
theorem zw_198_1 : ∀ w ∈ zt_198_1.flatMap (zNds 198), zWd w := zPls_ok [1495, 1573, 87, 1571, 1569, 1565, 1488, 1496, 1383, 105, 1381, 1382, 1775, 1489] (by decide +kernel) (by decide +kernel)
theorem zc_198 : zt_198.all (zRowOk 198) = true := zAll_app zc_198_0 (zc_198_1)
theorem zw_198 : ∀ w ∈ zt_198.flatMap (zNds 198), zWd w := zFl_app zw_198_0 (zw_198_1)
theorem zc_199 : zt_199.all (zRowOk 199) = true := by decide +kernel
theorem zw_199 : ∀ w ∈ zt_199.flatMap (zNds 199), zWd w := zPls_ok [1486, 1547, 84, 1546, 1545, 1551, 84, 1550, 36, 1548, 2125, 84, 2124, 70, 2122] (by decide +kernel) (by decide +kernel)
theorem zc_201 : zt_201.all (zRowOk 201) = true := by decide +kernel
theorem zw_201 : ∀ w ∈ zt_201.flatMap (zNds 201), zWd w := zPls_ok [1486, 1892, 84, 1891, 48, 1889, 1547, 84, 1546, 1545, 1551, 84, 1550, 36, 1548, 1933, 84, 1932, 51, 1930] (by decide +kernel) (by decide +kernel)
theorem zc_202 : zt_202.all (zRowOk 202) = true := by decide +kernel
theorem zw_202 : ∀ w ∈ zt_202.flatMap (zNds 202), zWd w := zPls_ok [1486, 1954, 84, 1953, 53, 1951, 1547, 84, 1546, 1545, 1551, 84, 1550, 36, 1548, 1494, 1696, 87, 1694, 1692, 1689, 1719, 1958, 84, 1957, 54, 1955] (by decide +kernel) (by decide +kernel)
theorem zc_203 : zt_203.all (zRowOk 203) = true := by decide +kernel
theorem zw_203 : ∀ w ∈ zt_203.flatMap (zNds 203), zWd w := zPls_ok [1486, 1954, 84, 1953, 53, 1951, 1892, 84, 1891, 48, 1889, 1551, 84, 1550, 36, 1548, 1494, 1696, 87, 1694, 1692, 1689, 1719, 1494, 1696, 87, 1694, 1692, 1689, 1719, 1747, 1966, 84, 1965, 56, 1963] (by decide +kernel) (by decide +kernel)
theorem zc_204_0 : zt_204_0.all (zRowOk 204) = true := by decide +kernel
theorem zw_204_0 : ∀ w ∈ zt_204_0.flatMap (zNds 204), zWd w := zPls_ok [1491, 1494, 1573, 87, 1571, 1569, 1565, 1494, 1696, 87, 1694, 1692, 1689, 1719, 1751, 1547, 84, 1546, 1545, 1500, 1896, 84, 1895, 49, 1893, 1495, 1573, 87, 1571, 1569, 1565, 1495, 1696, 87, 1694, 1692, 1689, 1789, 1811, 1813, 1817, 1813] (by decide +kernel) (by decide +kernel)
theorem zc_204_1 : zt_204_1.all (zRowOk 204) = true := by decide +kernel
theorem zw_204_1 : ∀ w ∈ zt_204_1.flatMap (zNds 204), zWd w := zPls_ok [1487, 1974, 110, 1972, 1973, 1971] (by decide +kernel) (by decide +kernel)
theorem zc_204 : zt_204.all (zRowOk 204) = true := zAll_app zc_204_0 (zc_204_1)
theorem zw_204 : ∀ w ∈ zt_204.flatMap (zNds 204), zWd w := zFl_app zw_204_0 (zw_204_1)
theorem zc_205 : zt_205.all (zRowOk 205) = true := by decide +kernel
theorem zw_205 : ∀ w ∈ zt_205.flatMap (zNds 205), zWd w := zPls_ok [1486, 2150, 84, 2149, 71, 2147] (by decide +kernel) (by decide +kernel)
theorem zc_206_0 : zt_206_0.all (zRowOk 206) = true := by decide +kernel
theorem zw_206_0 : ∀ w ∈ zt_206_0.flatMap (zNds 206), zWd w := zPls_ok [1486, 2155, 2156, 2125, 84, 2124, 70, 2122, 2156, 1490, 2156, 1491, 1493, 1573, 87, 1571, 1569, 1565, 2156, 2036, 84, 2035, 61, 2033, 2156, 2036, 84, 2035, 61, 2033, 1494, 1573, 87, 1571, 1569, 1565, 2156, 2044, 84, 2043, 62, 2041] (by decide +kernel) (by decide +kernel)
theorem zc_206_1 : zt_206_1.all (zRowOk 206) = true := by decide +kernel
theorem zw_206_1 : ∀ w ∈ zt_206_1.flatMap (zNds 206), zWd w := zPls_ok [2156, 2044, 84, 2043, 62, 2041, 1495, 1573, 87, 1571, 1569, 1565, 2156, 2062, 84, 2061, 63, 2059, 2156, 1937, 84, 1936, 52, 1934, 2156, 2076, 84, 2075, 64, 2073, 1501, 2156] (by decide +kernel) (by decide +kernel)

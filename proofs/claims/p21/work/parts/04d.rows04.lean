/-! ===== the check of the rows, group 4 ===== -/
theorem zc_173 : zt_173.all (zRowOk 173) = true := by decide +kernel
theorem zw_173 : ∀ w ∈ zt_173.flatMap (zNds 173), zWd w := zPls_ok [1486, 1954, 84, 1953, 53, 1951, 1547, 84, 1546, 1545, 1551, 84, 1550, 36, 1548, 1494, 1696, 87, 1694, 1692, 1689, 1719, 1749, 1551, 84, 1550, 36, 1548, 1958, 84, 1957, 54, 1955, 1751, 1749, 1751] (by decide +kernel) (by decide +kernel)
theorem zc_174 : zt_174.all (zRowOk 174) = true := by decide +kernel
theorem zw_174 : ∀ w ∈ zt_174.flatMap (zNds 174), zWd w := zPls_ok [1486, 1954, 84, 1953, 53, 1951, 1551, 84, 1550, 36, 1548, 1494, 1696, 87, 1694, 1692, 1689, 1719, 1749, 1551, 84, 1550, 36, 1548, 1488, 1751, 1962, 84, 1961, 55, 1959, 1488, 1962, 84, 1961, 55, 1959, 1751, 1751] (by decide +kernel) (by decide +kernel)
theorem zc_175 : zt_175.all (zRowOk 175) = true := by decide +kernel
theorem zw_175 : ∀ w ∈ zt_175.flatMap (zNds 175), zWd w := zPls_ok [1486, 1547, 84, 1546, 1545, 1551, 84, 1550, 36, 1548, 1487, 1551, 84, 1550, 36, 1548, 1487, 1487, 1487] (by decide +kernel) (by decide +kernel)
theorem zc_176 : zt_176.all (zRowOk 176) = true := by decide +kernel
theorem zw_176 : ∀ w ∈ zt_176.flatMap (zNds 176), zWd w := zPls_ok [1486, 1489, 1489, 1489] (by decide +kernel) (by decide +kernel)
theorem zc_177 : zt_177.all (zRowOk 177) = true := by decide +kernel
theorem zw_177 : ∀ w ∈ zt_177.flatMap (zNds 177), zWd w := zPls_ok [1486, 1547, 84, 1546, 1545, 1547, 84, 1546, 1545, 1551, 84, 1550, 36, 1548, 1491] (by decide +kernel) (by decide +kernel)
theorem zc_178 : zt_178.all (zRowOk 178) = true := by decide +kernel
theorem zw_178 : ∀ w ∈ zt_178.flatMap (zNds 178), zWd w := zPls_ok [1493, 1696, 87, 1694, 1692, 1689, 1574, 1494, 1573, 87, 1571, 1569, 1565, 1494, 1696, 87, 1694, 1692, 1689, 1719, 1726, 1581, 1494, 1696, 87, 1694, 1692, 1689, 1719, 2009, 97, 2007, 2008, 2006, 180, 1581, 1583, 1585, 1587, 1589, 1591, 1593, 1597, 1599, 1595, 1708, 97, 1706, 1707, 1705] (by decide +kernel) (by decide +kernel)
theorem zc_179 : zt_179.all (zRowOk 179) = true := by decide +kernel
theorem zw_179 : ∀ w ∈ zt_179.flatMap (zNds 179), zWd w := zPls_ok [1486, 1687, 84, 1686, 40, 1684, 1551, 84, 1550, 36, 1548, 1547, 84, 1546, 1545, 1551, 84, 1550, 36, 1548, 2036, 84, 2035, 61, 2033] (by decide +kernel) (by decide +kernel)
theorem zc_180 : zt_180.all (zRowOk 180) = true := by decide +kernel
theorem zw_180 : ∀ w ∈ zt_180.flatMap (zNds 180), zWd w := zPls_ok [1494, 1696, 87, 1694, 1692, 1689, 1719, 180, 1726, 1728, 1732, 1736, 1740, 1744, 1747, 1726, 2005, 84, 2004, 60, 2002, 1728, 2005, 84, 2004, 60, 2002, 2001, 84, 2000, 59, 1998, 1962, 84, 1961, 55, 1959, 1487, 2048, 104, 2046, 2047, 2045, 1962, 84, 1961, 55, 1959, 1749, 1751] (by decide +kernel) (by decide +kernel)
theorem zc_181 : zt_181.all (zRowOk 181) = true := by decide +kernel
theorem zw_181 : ∀ w ∈ zt_181.flatMap (zNds 181), zWd w := zPls_ok [1486, 1954, 84, 1953, 53, 1951, 1551, 84, 1550, 36, 1548, 1547, 84, 1546, 1545, 1551, 84, 1550, 36, 1548, 2044, 84, 2043, 62, 2041] (by decide +kernel) (by decide +kernel)
theorem zc_182 : zt_182.all (zRowOk 182) = true := by decide +kernel
theorem zw_182 : ∀ w ∈ zt_182.flatMap (zNds 182), zWd w := zPls_ok [1486, 1954, 84, 1953, 53, 1951, 1892, 84, 1891, 48, 1889, 1551, 84, 1550, 36, 1548, 1494, 1696, 87, 1694, 1692, 1689, 1719, 1747, 1994, 84, 1993, 58, 1991] (by decide +kernel) (by decide +kernel)
theorem zc_183 : zt_183.all (zRowOk 183) = true := by decide +kernel
theorem zw_183 : ∀ w ∈ zt_183.flatMap (zNds 183), zWd w := zPls_ok [1495, 1696, 87, 1694, 1692, 1689, 1789, 1495, 1573, 87, 1571, 1569, 1565, 1495, 1696, 87, 1694, 1692, 1689, 1789, 1811, 180, 1796, 1798, 1800, 1802, 1983, 110, 1981, 1982, 2063, 1988, 110, 1986, 1987, 2064, 1809, 1811, 1813, 1815, 1817, 1487, 1974, 110, 1972, 1973, 1971] (by decide +kernel) (by decide +kernel)
theorem zc_184 : zt_184.all (zRowOk 184) = true := by decide +kernel
theorem zw_184 : ∀ w ∈ zt_184.flatMap (zNds 184), zWd w := zPls_ok [1486, 1892, 84, 1891, 48, 1889, 1551, 84, 1550, 36, 1548, 1547, 84, 1546, 1545, 1551, 84, 1550, 36, 1548, 2062, 84, 2061, 63, 2059] (by decide +kernel) (by decide +kernel)
theorem zc_185 : zt_185.all (zRowOk 185) = true := by decide +kernel
theorem zw_185 : ∀ w ∈ zt_185.flatMap (zNds 185), zWd w := zPls_ok [1486, 1547, 84, 1546, 1545, 1892, 84, 1891, 48, 1889, 1551, 84, 1550, 36, 1548, 1937, 84, 1936, 52, 1934] (by decide +kernel) (by decide +kernel)
theorem zc_186 : zt_186.all (zRowOk 186) = true := by decide +kernel
theorem zw_186 : ∀ w ∈ zt_186.flatMap (zNds 186), zWd w := zPls_ok [1498, 1499, 1500, 1497] (by decide +kernel) (by decide +kernel)
theorem zc_187 : zt_187.all (zRowOk 187) = true := by decide +kernel
theorem zw_187 : ∀ w ∈ zt_187.flatMap (zNds 187), zWd w := zPls_ok [1486, 1547, 84, 1546, 1545, 1551, 84, 1550, 36, 1548, 1547, 84, 1546, 1545, 1551, 84, 1550, 36, 1548, 2076, 84, 2075, 64, 2073] (by decide +kernel) (by decide +kernel)
theorem zc_188 : zt_188.all (zRowOk 188) = true := by decide +kernel
theorem zw_188 : ∀ w ∈ zt_188.flatMap (zNds 188), zWd w := zPls_ok [2089, 1495, 1573, 87, 1571, 1569, 1565, 1495, 1696, 87, 1694, 1692, 1689, 1789, 1808, 1796, 1813, 1806, 1804, 180] (by decide +kernel) (by decide +kernel)
theorem zc_189 : zt_189.all (zRowOk 189) = true := by decide +kernel
theorem zw_189 : ∀ w ∈ zt_189.flatMap (zNds 189), zWd w := zPls_ok [2088, 84, 2087, 66, 2085, 180, 1719, 1720, 104, 1487, 1723, 104, 1722, 1721, 1732, 1740, 1744, 1487, 1966, 84, 1965, 56, 1963, 1487, 1966, 84, 1965, 56, 1963, 681, 99, 680, 1938] (by decide +kernel) (by decide +kernel)
theorem zc_190 : zt_190.all (zRowOk 190) = true := by decide +kernel
theorem zw_190 : ∀ w ∈ zt_190.flatMap (zNds 190), zWd w := zPls_ok [1486, 1547, 84, 1546, 1545, 1547, 84, 1546, 1545, 1551, 84, 1550, 36, 1548, 1547, 84, 1546, 1545, 1551, 84, 1550, 36, 1548, 2084, 84, 2083, 65, 2081] (by decide +kernel) (by decide +kernel)
theorem zc_191 : zt_191.all (zRowOk 191) = true := by decide +kernel
theorem zw_191 : ∀ w ∈ zt_191.flatMap (zNds 191), zWd w := zPls_ok [1486, 1892, 84, 1891, 48, 1889, 1547, 84, 1546, 1545, 1551, 84, 1550, 36, 1548, 1495, 1696, 87, 1694, 1692, 1689, 1789, 1796, 2084, 84, 2083, 65, 2081] (by decide +kernel) (by decide +kernel)
theorem zc_192 : zt_192.all (zRowOk 192) = true := by decide +kernel
theorem zw_192 : ∀ w ∈ zt_192.flatMap (zNds 192), zWd w := zPls_ok [1494, 1573, 87, 1571, 1569, 1565, 1494, 1696, 87, 1694, 1692, 1689, 1719, 1732, 1744, 1487, 2048, 104, 2046, 2047, 2045, 1962, 84, 1961, 55, 1959, 681, 99, 680, 1938, 1744, 2001, 84, 2000, 59, 1998, 681, 99, 680, 1938] (by decide +kernel) (by decide +kernel)
theorem zc_193 : zt_193.all (zRowOk 193) = true := by decide +kernel
theorem zw_193 : ∀ w ∈ zt_193.flatMap (zNds 193), zWd w := zPls_ok [1486, 1547, 84, 1546, 1545, 1551, 84, 1550, 36, 1548, 2101, 84, 2100, 67, 2098] (by decide +kernel) (by decide +kernel)
theorem zc_194 : zt_194.all (zRowOk 194) = true := by decide +kernel
theorem zw_194 : ∀ w ∈ zt_194.flatMap (zNds 194), zWd w := zPls_ok [180, 1719, 1720, 104, 1487, 1723, 104, 1722, 1721, 2005, 84, 2004, 60, 2002, 1490] (by decide +kernel) (by decide +kernel)
theorem zc_195 : zt_195.all (zRowOk 195) = true := by decide +kernel
theorem zw_195 : ∀ w ∈ zt_195.flatMap (zNds 195), zWd w := zPls_ok [1486, 1547, 84, 1546, 1545, 1547, 84, 1546, 1545, 1551, 84, 1550, 36, 1548, 1547, 84, 1546, 1545, 1547, 84, 1546, 1545, 1547, 84, 1546, 1545, 1551, 84, 1550, 36, 1548, 2109, 84, 2108, 68, 2106] (by decide +kernel) (by decide +kernel)
theorem zc_196 : zt_196.all (zRowOk 196) = true := by decide +kernel
theorem zw_196 : ∀ w ∈ zt_196.flatMap (zNds 196), zWd w := zPls_ok [1494, 1573, 87, 1571, 1569, 1565, 1494, 1696, 87, 1694, 1692, 1689, 1719, 1494, 1696, 87, 1694, 1692, 1689, 1719, 1749, 1749, 1736, 1736, 1732, 1732, 1740, 1740, 1751, 1751] (by decide +kernel) (by decide +kernel)
theorem zc_197 : zt_197.all (zRowOk 197) = true := by decide +kernel
theorem zw_197 : ∀ w ∈ zt_197.flatMap (zNds 197), zWd w := zPls_ok [1486, 2117, 84, 2116, 69, 2114] (by decide +kernel) (by decide +kernel)
theorem zc_198 : zt_198.all (zRowOk 198) = true := by decide +kernel
theorem zw_198 : ∀ w ∈ zt_198.flatMap (zNds 198), zWd w := zPls_ok [180, 1495, 1573, 87, 1571, 1569, 1565, 1495, 1696, 87, 1694, 1692, 1689, 1789, 1813, 1495, 1696, 87, 1694, 1692, 1689, 1789, 1487, 1974, 110, 1972, 1973, 1971, 1494, 1573, 87, 1571, 1569, 1565, 1494, 1696, 87, 1694, 1692, 1689, 1719, 1749, 1494, 1696, 87, 1694, 1692, 1689, 1719, 1962, 84, 1961, 55, 1959, 1494, 1696, 87, 1694, 1692, 1689, 1719, 2001, 84, 2000, 59, 1998, 180, 1487, 1493, 1573, 87, 1571, 1569, 1565, 1494, 1573, 87, 1571, 1569, 1565, 1495, 1573, 87, 1571, 1569, 1565, 1488, 1496, 1383, 105, 1381, 1382, 1775, 1489] (by decide +kernel) (by decide +kernel)
theorem zc_199 : zt_199.all (zRowOk 199) = true := by decide +kernel
theorem zw_199 : ∀ w ∈ zt_199.flatMap (zNds 199), zWd w := zPls_ok [1486, 1547, 84, 1546, 1545, 1551, 84, 1550, 36, 1548, 2125, 84, 2124, 70, 2122] (by decide +kernel) (by decide +kernel)
theorem zc_201 : zt_201.all (zRowOk 201) = true := by decide +kernel
theorem zw_201 : ∀ w ∈ zt_201.flatMap (zNds 201), zWd w := zPls_ok [1486, 1892, 84, 1891, 48, 1889, 1547, 84, 1546, 1545, 1551, 84, 1550, 36, 1548, 1933, 84, 1932, 51, 1930] (by decide +kernel) (by decide +kernel)

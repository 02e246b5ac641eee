/-! ===== the check of the rows, group 9 ===== -/
theorem zc_171 : zt_171.all (zRowOk 171) = true := by decide +kernel
theorem zw_171 : ∀ w ∈ zt_171.flatMap (zNds 171), zWd w := zPls_ok [1486, 1547, 84, 1546, 1545, 1551, 84, 1550, 36, 1548, 1547, 84, 1546, 1545, 1551, 84, 1550, 36, 1548, 1501, 1501] (by decide +kernel) (by decide +kernel)
theorem zc_172 : zt_172.all (zRowOk 172) = true := by decide +kernel
theorem zw_172 : ∀ w ∈ zt_172.flatMap (zNds 172), zWd w := zPls_ok [1962, 84, 1961, 55, 1959, 2001, 84, 2000, 59, 1998, 1501, 678, 99, 677, 2012, 1547, 84, 1546, 1545, 681, 99, 680, 1938] (by decide +kernel) (by decide +kernel)
theorem zc_173 : zt_173.all (zRowOk 173) = true := by decide +kernel
theorem zw_173 : ∀ w ∈ zt_173.flatMap (zNds 173), zWd w := zPls_ok [1486, 1954, 84, 1953, 53, 1951, 1547, 84, 1546, 1545, 1551, 84, 1550, 36, 1548, 1494, 1696, 87, 1694, 1692, 1689, 1719, 1749, 1551, 84, 1550, 36, 1548, 1958, 84, 1957, 54, 1955, 1751, 1749, 1751] (by decide +kernel) (by decide +kernel)
theorem zc_174 : zt_174.all (zRowOk 174) = true := by decide +kernel
theorem zw_174 : ∀ w ∈ zt_174.flatMap (zNds 174), zWd w := zPls_ok [1486, 1954, 84, 1953, 53, 1951, 1551, 84, 1550, 36, 1548, 1494, 1696, 87, 1694, 1692, 1689, 1719, 1749, 1551, 84, 1550, 36, 1548, 1488, 1751, 1962, 84, 1961, 55, 1959, 1488, 1962, 84, 1961, 55, 1959, 1751, 1751] (by decide +kernel) (by decide +kernel)
theorem zc_175 : zt_175.all (zRowOk 175) = true := by decide +kernel
theorem zw_175 : ∀ w ∈ zt_175.flatMap (zNds 175), zWd w := zPls_ok [1486, 1547, 84, 1546, 1545, 1551, 84, 1550, 36, 1548, 1487, 1551, 84, 1550, 36, 1548, 1487, 1487, 1487] (by decide +kernel) (by decide +kernel)
theorem zc_176 : zt_176.all (zRowOk 176) = true := by decide +kernel
theorem zw_176 : ∀ w ∈ zt_176.flatMap (zNds 176), zWd w := zPls_ok [1486, 1489, 1489, 1489] (by decide +kernel) (by decide +kernel)
theorem zc_177 : zt_177.all (zRowOk 177) = true := by decide +kernel
theorem zw_177 : ∀ w ∈ zt_177.flatMap (zNds 177), zWd w := zPls_ok [1486, 1547, 84, 1546, 1545, 1547, 84, 1546, 1545, 1551, 84, 1550, 36, 1548, 1491] (by decide +kernel) (by decide +kernel)
theorem zc_178 : zt_178.all (zRowOk 178) = true := by decide +kernel
theorem zw_178 : ∀ w ∈ zt_178.flatMap (zNds 178), zWd w := zPls_ok [1493, 1696, 87, 1694, 1692, 1689, 1574, 1494, 1573, 87, 1571, 1569, 1565, 1494, 1696, 87, 1694, 1692, 1689, 1719, 1726, 1581, 1494, 1696, 87, 1694, 1692, 1689, 1719, 2009, 97, 2007, 2008, 2006, 180, 1581, 1583, 1585, 1587, 1589, 1591, 1593, 1597, 1599, 1595, 1708, 97, 1706, 1707, 1705] (by decide +kernel) (by decide +kernel)
theorem zc_179 : zt_179.all (zRowOk 179) = true := by decide +kernel
theorem zw_179 : ∀ w ∈ zt_179.flatMap (zNds 179), zWd w := zPls_ok [1486, 1687, 84, 1686, 40, 1684, 1551, 84, 1550, 36, 1548, 1547, 84, 1546, 1545, 1551, 84, 1550, 36, 1548, 2036, 84, 2035, 61, 2033] (by decide +kernel) (by decide +kernel)
theorem zc_180 : zt_180.all (zRowOk 180) = true := by decide +kernel
theorem zw_180 : ∀ w ∈ zt_180.flatMap (zNds 180), zWd w := zPls_ok [1494, 1696, 87, 1694, 1692, 1689, 1719, 180, 1726, 1728, 1732, 1736, 1740, 1744, 1747, 1726, 2005, 84, 2004, 60, 2002, 1728, 2005, 84, 2004, 60, 2002, 2001, 84, 2000, 59, 1998, 1962, 84, 1961, 55, 1959, 1487, 2048, 104, 2046, 2047, 2045, 1962, 84, 1961, 55, 1959, 1749, 1751] (by decide +kernel) (by decide +kernel)
theorem zc_181 : zt_181.all (zRowOk 181) = true := by decide +kernel
theorem zw_181 : ∀ w ∈ zt_181.flatMap (zNds 181), zWd w := zPls_ok [1486, 1954, 84, 1953, 53, 1951, 1551, 84, 1550, 36, 1548, 1547, 84, 1546, 1545, 1551, 84, 1550, 36, 1548, 2044, 84, 2043, 62, 2041] (by decide +kernel) (by decide +kernel)
theorem zc_182 : zt_182.all (zRowOk 182) = true := by decide +kernel
theorem zw_182 : ∀ w ∈ zt_182.flatMap (zNds 182), zWd w := zPls_ok [1486, 1954, 84, 1953, 53, 1951, 1892, 84, 1891, 48, 1889, 1551, 84, 1550, 36, 1548, 1494, 1696, 87, 1694, 1692, 1689, 1719, 1747, 1994, 84, 1993, 58, 1991] (by decide +kernel) (by decide +kernel)
theorem zc_183 : zt_183.all (zRowOk 183) = true := by decide +kernel
theorem zw_183 : ∀ w ∈ zt_183.flatMap (zNds 183), zWd w := zPls_ok [1495, 1696, 87, 1694, 1692, 1689, 1789, 1495, 1573, 87, 1571, 1569, 1565, 1495, 1696, 87, 1694, 1692, 1689, 1789, 1811, 180, 1796, 1798, 1800, 1802, 1983, 110, 1981, 1982, 2063, 1988, 110, 1986, 1987, 2064, 1809, 1811, 1813, 1815, 1817, 1487, 1974, 110, 1972, 1973, 1971] (by decide +kernel) (by decide +kernel)
theorem zc_184 : zt_184.all (zRowOk 184) = true := by decide +kernel
theorem zw_184 : ∀ w ∈ zt_184.flatMap (zNds 184), zWd w := zPls_ok [1486, 1892, 84, 1891, 48, 1889, 1551, 84, 1550, 36, 1548, 1547, 84, 1546, 1545, 1551, 84, 1550, 36, 1548, 2062, 84, 2061, 63, 2059] (by decide +kernel) (by decide +kernel)

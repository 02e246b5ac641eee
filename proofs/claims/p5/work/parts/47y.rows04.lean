/-! ===== the check of the rows, group 4 ===== -/
theorem zc_190_0 : zt_190_0.all (zRowOk 190) = true := by decide +kernel
theorem zw_190_0 : ∀ w ∈ zt_190_0.flatMap (zNds 190), zWd w := zPls_ok2 [2092, 84, 2091, 66, 2089, 180, 1723, 1724, 104, 1487, 1727, 104, 1726, 1725, 1736, 1744, 1748, 1487, 1970, 84, 1969, 56, 1967, 1487, 1970, 84, 1969, 56, 1967] (by decide +kernel) (by decide +kernel)
theorem zc_190_1 : zt_190_1.all (zRowOk 190) = true := by decide +kernel
theorem zw_190_1 : ∀ w ∈ zt_190_1.flatMap (zNds 190), zWd w := zPls_ok2 [681, 99, 680, 1942] (by decide +kernel) (by decide +kernel)
theorem zc_190 : zt_190.all (zRowOk 190) = true := zAll_app zc_190_0 (zc_190_1)
theorem zw_190 : ∀ w ∈ zt_190.flatMap (zNds 190), zWd w := zFl_app zw_190_0 (zw_190_1)
theorem zc_191 : zt_191.all (zRowOk 191) = true := by decide +kernel
theorem zw_191 : ∀ w ∈ zt_191.flatMap (zNds 191), zWd w := zPls_ok2 [1486, 1551, 84, 1550, 1549, 1551, 84, 1550, 1549, 1555, 84, 1554, 36, 1552, 1551, 84, 1550, 1549, 1555, 84, 1554, 36, 1552, 2088, 84, 2087, 65, 2085] (by decide +kernel) (by decide +kernel)
theorem zc_192 : zt_192.all (zRowOk 192) = true := by decide +kernel
theorem zw_192 : ∀ w ∈ zt_192.flatMap (zNds 192), zWd w := zPls_ok2 [1486, 1896, 84, 1895, 48, 1893, 1551, 84, 1550, 1549, 1555, 84, 1554, 36, 1552, 1495, 1700, 87, 1698, 1696, 1693, 1793, 1800, 2088, 84, 2087, 65, 2085] (by decide +kernel) (by decide +kernel)
theorem zc_193 : zt_193.all (zRowOk 193) = true := by decide +kernel
theorem zw_193 : ∀ w ∈ zt_193.flatMap (zNds 193), zWd w := zPls_ok2 [1494, 1577, 87, 1575, 1573, 1569, 1494, 1700, 87, 1698, 1696, 1693, 1723, 1736, 1748, 1487, 2052, 104, 2050, 2051, 2049, 1966, 84, 1965, 55, 1963, 681, 99, 680, 1942, 1748, 2005, 84, 2004, 59, 2002, 681, 99, 680, 1942] (by decide +kernel) (by decide +kernel)
theorem zc_194 : zt_194.all (zRowOk 194) = true := by decide +kernel
theorem zw_194 : ∀ w ∈ zt_194.flatMap (zNds 194), zWd w := zPls_ok2 [1486, 1551, 84, 1550, 1549, 1555, 84, 1554, 36, 1552, 2105, 84, 2104, 67, 2102] (by decide +kernel) (by decide +kernel)

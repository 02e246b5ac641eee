/-! ===== the check of the rows, group 5 ===== -/
theorem zc_195 : zt_195.all (zRowOk 195) = true := by decide +kernel
theorem zw_195 : ∀ w ∈ zt_195.flatMap (zNds 195), zWd w := zPls_ok2 [180, 1723, 1724, 104, 1487, 1727, 104, 1726, 1725, 2009, 84, 2008, 60, 2006, 1490] (by decide +kernel) (by decide +kernel)
theorem zc_196 : zt_196.all (zRowOk 196) = true := by decide +kernel
theorem zw_196 : ∀ w ∈ zt_196.flatMap (zNds 196), zWd w := zPls_ok2 [1486, 1551, 84, 1550, 1549, 1551, 84, 1550, 1549, 1555, 84, 1554, 36, 1552, 1551, 84, 1550, 1549, 1551, 84, 1550, 1549, 1551, 84, 1550, 1549, 1555, 84, 1554, 36, 1552, 2113, 84, 2112, 68, 2110] (by decide +kernel) (by decide +kernel)
theorem zc_197 : zt_197.all (zRowOk 197) = true := by decide +kernel
theorem zw_197 : ∀ w ∈ zt_197.flatMap (zNds 197), zWd w := zPls_ok2 [1494, 1577, 87, 1575, 1573, 1569, 1494, 1700, 87, 1698, 1696, 1693, 1723, 1494, 1700, 87, 1698, 1696, 1693, 1723, 1753, 1753, 1740, 1740, 1736, 1736, 1744, 1744, 1755, 1755] (by decide +kernel) (by decide +kernel)
theorem zc_198 : zt_198.all (zRowOk 198) = true := by decide +kernel
theorem zw_198 : ∀ w ∈ zt_198.flatMap (zNds 198), zWd w := zPls_ok2 [1486, 2121, 84, 2120, 69, 2118] (by decide +kernel) (by decide +kernel)
theorem zc_199_0 : zt_199_0.all (zRowOk 199) = true := by decide +kernel
theorem zw_199_0 : ∀ w ∈ zt_199_0.flatMap (zNds 199), zWd w := zPls_ok2 [180, 1495, 1577, 87, 1575, 1573, 1569, 1495, 1700, 87, 1698, 1696, 1693, 1793, 1817, 1495, 1700, 87, 1698, 1696, 1693, 1793, 1487, 1978, 110, 1976, 1977, 1975, 1494, 1577, 87, 1575, 1573, 1569, 1494, 1700, 87, 1698, 1696, 1693, 1723, 1753, 1494, 1700, 87, 1698, 1696, 1693, 1723, 1966, 84, 1965, 55, 1963, 1494, 1700, 87, 1698, 1696, 1693, 1723, 2005, 84, 2004, 59, 2002, 180, 1487, 1493, 1577, 87, 1575, 1573, 1569, 1494, 1577, 87, 1575, 1573, 1569] (by decide +kernel) (by decide +kernel)
theorem zc_199_1 : zt_199_1.all (zRowOk 199) = true := by decide +kernel
theorem zw_199_1 : ∀ w ∈ zt_199_1.flatMap (zNds 199), zWd w := zPls_ok2 [1495, 1577, 87, 1575, 1573, 1569, 1488, 1496, 1383, 105, 1381, 1382, 1779, 1489] (by decide +kernel) (by decide +kernel)

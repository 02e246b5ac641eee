/-! ===== the check of the rows, group 6 ===== -/
theorem zc_199 : zt_199.all (zRowOk 199) = true := zAll_app zc_199_0 (zc_199_1)
theorem zw_199 : ∀ w ∈ zt_199.flatMap (zNds 199), zWd w := zFl_app zw_199_0 (zw_199_1)
theorem zc_200 : zt_200.all (zRowOk 200) = true := by decide +kernel
theorem zw_200 : ∀ w ∈ zt_200.flatMap (zNds 200), zWd w := zPls_ok2 [1486, 1551, 84, 1550, 1549, 1555, 84, 1554, 36, 1552, 2129, 84, 2128, 70, 2126] (by decide +kernel) (by decide +kernel)
theorem zc_202 : zt_202.all (zRowOk 202) = true := by decide +kernel
theorem zw_202 : ∀ w ∈ zt_202.flatMap (zNds 202), zWd w := zPls_ok2 [1486, 1896, 84, 1895, 48, 1893, 1551, 84, 1550, 1549, 1555, 84, 1554, 36, 1552, 1937, 84, 1936, 51, 1934] (by decide +kernel) (by decide +kernel)
theorem zc_203 : zt_203.all (zRowOk 203) = true := by decide +kernel
theorem zw_203 : ∀ w ∈ zt_203.flatMap (zNds 203), zWd w := zPls_ok2 [1486, 1958, 84, 1957, 53, 1955, 1551, 84, 1550, 1549, 1555, 84, 1554, 36, 1552, 1494, 1700, 87, 1698, 1696, 1693, 1723, 1962, 84, 1961, 54, 1959] (by decide +kernel) (by decide +kernel)
theorem zc_204 : zt_204.all (zRowOk 204) = true := by decide +kernel
theorem zw_204 : ∀ w ∈ zt_204.flatMap (zNds 204), zWd w := zPls_ok2 [1486, 1958, 84, 1957, 53, 1955, 1896, 84, 1895, 48, 1893, 1555, 84, 1554, 36, 1552, 1494, 1700, 87, 1698, 1696, 1693, 1723, 1494, 1700, 87, 1698, 1696, 1693, 1723, 1751, 1970, 84, 1969, 56, 1967] (by decide +kernel) (by decide +kernel)
theorem zc_205_0 : zt_205_0.all (zRowOk 205) = true := by decide +kernel
theorem zw_205_0 : ∀ w ∈ zt_205_0.flatMap (zNds 205), zWd w := zPls_ok2 [1491, 1494, 1577, 87, 1575, 1573, 1569, 1494, 1700, 87, 1698, 1696, 1693, 1723, 1755, 1551, 84, 1550, 1549, 1500, 1900, 84, 1899, 49, 1897, 1495, 1577, 87, 1575, 1573, 1569, 1495, 1700, 87, 1698, 1696, 1693, 1793, 1815, 1817, 1821, 1817] (by decide +kernel) (by decide +kernel)
theorem zc_205_1 : zt_205_1.all (zRowOk 205) = true := by decide +kernel
theorem zw_205_1 : ∀ w ∈ zt_205_1.flatMap (zNds 205), zWd w := zPls_ok2 [1487, 1978, 110, 1976, 1977, 1975] (by decide +kernel) (by decide +kernel)

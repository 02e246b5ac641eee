/-! ===== the check of the rows, group 7 ===== -/
theorem zc_205 : zt_205.all (zRowOk 205) = true := zAll_app zc_205_0 (zc_205_1)
theorem zw_205 : ∀ w ∈ zt_205.flatMap (zNds 205), zWd w := zFl_app zw_205_0 (zw_205_1)
theorem zc_206 : zt_206.all (zRowOk 206) = true := by decide +kernel
theorem zw_206 : ∀ w ∈ zt_206.flatMap (zNds 206), zWd w := zPls_ok2 [1486, 2154, 84, 2153, 71, 2151] (by decide +kernel) (by decide +kernel)
theorem zc_207_0 : zt_207_0.all (zRowOk 207) = true := by decide +kernel
theorem zw_207_0 : ∀ w ∈ zt_207_0.flatMap (zNds 207), zWd w := zPls_ok2 [1486, 2159, 2160, 2129, 84, 2128, 70, 2126, 2160, 1490, 2160, 1491, 1493, 1577, 87, 1575, 1573, 1569, 2160, 2040, 84, 2039, 61, 2037, 2160, 2040, 84, 2039, 61, 2037, 1494, 1577, 87, 1575, 1573, 1569, 2160, 2048, 84, 2047, 62, 2045] (by decide +kernel) (by decide +kernel)
theorem zc_207_1 : zt_207_1.all (zRowOk 207) = true := by decide +kernel
theorem zw_207_1 : ∀ w ∈ zt_207_1.flatMap (zNds 207), zWd w := zPls_ok2 [2160, 2048, 84, 2047, 62, 2045, 1495, 1577, 87, 1575, 1573, 1569, 2160, 2066, 84, 2065, 63, 2063, 2160, 1941, 84, 1940, 52, 1938, 2160, 2080, 84, 2079, 64, 2077, 1501, 2160] (by decide +kernel) (by decide +kernel)

/-! ===== the check of the rows, group 15 ===== -/
theorem zc_297 : zt_297.all (zRowOk 297) = true := by decide +kernel
theorem zw_297 : ∀ w ∈ zt_297.flatMap (zNds 297), zWd w := zPls_ok [1258, 108, 1257, 1256, 1261, 105, 1260, 1259] (by decide +kernel) (by decide +kernel)
theorem zc_298 : zt_298.all (zRowOk 298) = true := by decide +kernel
theorem zw_298 : ∀ w ∈ zt_298.flatMap (zNds 298), zWd w := zPls_ok [1470] (by decide +kernel) (by decide +kernel)
theorem zc_302 : zt_302.all (zRowOk 302) = true := by decide +kernel
theorem zw_302 : ∀ w ∈ zt_302.flatMap (zNds 302), zWd w := zPls_ok [1474, 1641, 87, 1640, 39, 1638] (by decide +kernel) (by decide +kernel)
theorem zc_303 : zt_303.all (zRowOk 303) = true := by decide +kernel
theorem zw_303 : ∀ w ∈ zt_303.flatMap (zNds 303), zWd w := zPls_ok [1474] (by decide +kernel) (by decide +kernel)
theorem zc_304 : zt_304.all (zRowOk 304) = true := by decide +kernel
theorem zw_304 : ∀ w ∈ zt_304.flatMap (zNds 304), zWd w := zPls_ok [1473] (by decide +kernel) (by decide +kernel)
theorem zc_305 : zt_305.all (zRowOk 305) = true := by decide +kernel
theorem zw_305 : ∀ w ∈ zt_305.flatMap (zNds 305), zWd w := zPls_ok [1474, 1699, 102, 1698, 1697, 1704, 87, 1702, 1703, 1701] (by decide +kernel) (by decide +kernel)
theorem zc_306 : zt_306.all (zRowOk 306) = true := by decide +kernel
theorem zw_306 : ∀ w ∈ zt_306.flatMap (zNds 306), zWd w := zPls_ok [1474, 1699, 102, 1698, 1697, 1704, 87, 1702, 1703, 1701, 1473] (by decide +kernel) (by decide +kernel)
theorem zc_307 : zt_307.all (zRowOk 307) = true := by decide +kernel
theorem zw_307 : ∀ w ∈ zt_307.flatMap (zNds 307), zWd w := zPls_ok [1637, 87, 1636, 38, 1634, 1474] (by decide +kernel) (by decide +kernel)
theorem zc_315 : zt_315.all (zRowOk 315) = true := by decide +kernel
theorem zw_315 : ∀ w ∈ zt_315.flatMap (zNds 315), zWd w := zPls_ok [1287, 103, 1286, 1700] (by decide +kernel) (by decide +kernel)
theorem zc_316 : zt_316.all (zRowOk 316) = true := by decide +kernel
theorem zw_316 : ∀ w ∈ zt_316.flatMap (zNds 316), zWd w := zPls_ok [681, 99, 680, 1215, 1216, 1219, 98, 1218, 1217] (by decide +kernel) (by decide +kernel)

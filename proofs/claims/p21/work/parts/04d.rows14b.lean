/-! ===== the check of the rows, more ===== -/
theorem zc_242_9 : zt_242_9.all (zRowOk 242) = true := by decide +kernel
theorem zw_242_9 : ∀ w ∈ zt_242_9.flatMap (zNds 242), zWd w := zPls_ok [1157, 72, 1156, 1155, 2129, 84, 2127, 2128, 2126, 1432, 72, 1431, 1430, 2134, 84, 2132, 2133, 2131, 1440, 72, 1439, 1438, 2138, 84, 2136, 2137, 2135, 1447, 72, 1446, 1445] (by decide +kernel) (by decide +kernel)

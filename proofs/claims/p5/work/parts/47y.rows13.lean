/-! ===== the check of the rows, group 13 ===== -/
theorem zc_243_9 : zt_243_9.all (zRowOk 243) = true := by decide +kernel
theorem zw_243_9 : ∀ w ∈ zt_243_9.flatMap (zNds 243), zWd w := zPls_ok2 [1153, 72, 1152, 1151, 2125, 84, 2123, 2124, 2122, 1157, 72, 1156, 1155, 2133, 84, 2131, 2132, 2130, 1432, 72, 1431, 1430, 2138, 84, 2136, 2137, 2135, 1440, 72, 1439, 1438, 2142, 84, 2140, 2141, 2139] (by decide +kernel) (by decide +kernel)
theorem zc_243_10 : zt_243_10.all (zRowOk 243) = true := by decide +kernel
theorem zw_243_10 : ∀ w ∈ zt_243_10.flatMap (zNds 243), zWd w := zPls_ok2 [1447, 72, 1446, 1445, 2146, 84, 2144, 2145, 2143, 516, 73, 514, 515, 513, 2150, 84, 2148, 2149, 2147, 544, 73, 542, 543, 541, 2158, 84, 2156, 2157, 2155] (by decide +kernel) (by decide +kernel)
theorem zc_243 : zt_243.all (zRowOk 243) = true := zAll_app zc_243_0 (zAll_app zc_243_1 (zAll_app zc_243_2 (zAll_app zc_243_3 (zAll_app zc_243_4 (zAll_app zc_243_5 (zAll_app zc_243_6 (zAll_app zc_243_7 (zAll_app zc_243_8 (zAll_app zc_243_9 (zc_243_10))))))))))
theorem zw_243 : ∀ w ∈ zt_243.flatMap (zNds 243), zWd w := zFl_app zw_243_0 (zFl_app zw_243_1 (zFl_app zw_243_2 (zFl_app zw_243_3 (zFl_app zw_243_4 (zFl_app zw_243_5 (zFl_app zw_243_6 (zFl_app zw_243_7 (zFl_app zw_243_8 (zFl_app zw_243_9 (zw_243_10))))))))))
theorem zc_245 : zt_245.all (zRowOk 245) = true := by decide +kernel
theorem zw_245 : ∀ w ∈ zt_245.flatMap (zNds 245), zWd w := zPls_ok2 [1183] (by decide +kernel) (by decide +kernel)
theorem zc_253 : zt_253.all (zRowOk 253) = true := by decide +kernel
theorem zw_253 : ∀ w ∈ zt_253.flatMap (zNds 253), zWd w := zPls_ok2 [1180] (by decide +kernel) (by decide +kernel)
theorem zc_258 : zt_258.all (zRowOk 258) = true := by decide +kernel
theorem zw_258 : ∀ w ∈ zt_258.flatMap (zNds 258), zWd w := zPls_ok2 [] (by decide +kernel) (by decide +kernel)
theorem zc_259 : zt_259.all (zRowOk 259) = true := by decide +kernel
theorem zw_259 : ∀ w ∈ zt_259.flatMap (zNds 259), zWd w := zPls_ok2 [] (by decide +kernel) (by decide +kernel)

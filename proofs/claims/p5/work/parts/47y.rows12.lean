/-! ===== the check of the rows, group 12 ===== -/
theorem zc_243_7 : zt_243_7.all (zRowOk 243) = true := by decide +kernel
theorem zw_243_7 : ∀ w ∈ zt_243_7.flatMap (zNds 243), zWd w := zPls_ok2 [2062, 84, 2060, 2061, 2059, 1120, 72, 1119, 1118, 2072, 84, 2070, 2071, 2069, 1124, 72, 1123, 1122, 2076, 84, 2074, 2075, 2073, 1128, 72, 1127, 1126, 2084, 84, 2082, 2083, 2081] (by decide +kernel) (by decide +kernel)
theorem zc_243_8 : zt_243_8.all (zRowOk 243) = true := by decide +kernel
theorem zw_243_8 : ∀ w ∈ zt_243_8.flatMap (zNds 243), zWd w := zPls_ok2 [1135, 72, 1134, 1133, 2097, 84, 2095, 2096, 2094, 1145, 72, 1144, 1143, 2101, 84, 2099, 2100, 2098, 1149, 72, 1148, 1147, 2109, 84, 2107, 2108, 2106, 508, 73, 506, 507, 505, 2117, 84, 2115, 2116, 2114] (by decide +kernel) (by decide +kernel)

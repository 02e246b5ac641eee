/-! ===== the check of the rows, group 14 ===== -/
theorem zc_242_7 : zt_242_7.all (zRowOk 242) = true := by decide +kernel
theorem zw_242_7 : ∀ w ∈ zt_242_7.flatMap (zNds 242), zWd w := zPls_ok [1120, 72, 1119, 1118, 2068, 84, 2066, 2067, 2065, 1124, 72, 1123, 1122, 2072, 84, 2070, 2071, 2069, 1128, 72, 1127, 1126, 2080, 84, 2078, 2079, 2077, 1135, 72, 1134, 1133] (by decide +kernel) (by decide +kernel)
theorem zc_242_8 : zt_242_8.all (zRowOk 242) = true := by decide +kernel
theorem zw_242_8 : ∀ w ∈ zt_242_8.flatMap (zNds 242), zWd w := zPls_ok [2093, 84, 2091, 2092, 2090, 1145, 72, 1144, 1143, 2097, 84, 2095, 2096, 2094, 1149, 72, 1148, 1147, 2105, 84, 2103, 2104, 2102, 508, 73, 506, 507, 505, 2113, 84, 2111, 2112, 2110, 1153, 72, 1152, 1151, 2121, 84, 2119, 2120, 2118] (by decide +kernel) (by decide +kernel)

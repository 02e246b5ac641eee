/-! ===== the check of the rows, more ===== -/
theorem zc_242_10 : zt_242_10.all (zRowOk 242) = true := by decide +kernel
theorem zw_242_10 : ∀ w ∈ zt_242_10.flatMap (zNds 242), zWd w := zPls_ok2 [2142, 84, 2140, 2141, 2139, 516, 73, 514, 515, 513, 2146, 84, 2144, 2145, 2143, 544, 73, 542, 543, 541, 2154, 84, 2152, 2153, 2151] (by decide +kernel) (by decide +kernel)

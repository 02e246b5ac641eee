/-! ===== the check of the rows, group 9 ===== -/
theorem zc_243_1 : zt_243_1.all (zRowOk 243) = true := by decide +kernel
theorem zw_243_1 : ∀ w ∈ zt_243_1.flatMap (zNds 243), zWd w := zPls_ok2 [1563, 84, 1561, 1562, 1560, 855, 72, 854, 853, 1567, 84, 1565, 1566, 1564, 1544, 84, 1542, 1543, 1541, 823] (by decide +kernel) (by decide +kernel)
theorem zc_243_2 : zt_243_2.all (zRowOk 243) = true := by decide +kernel
theorem zw_243_2 : ∀ w ∈ zt_243_2.flatMap (zNds 243), zWd w := zPls_ok2 [882, 72, 881, 880, 1687, 84, 1685, 1686, 1684, 889, 72, 888, 887, 1719, 84, 1717, 1718, 1716] (by decide +kernel) (by decide +kernel)

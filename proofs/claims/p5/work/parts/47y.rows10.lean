/-! ===== the check of the rows, group 10 ===== -/
theorem zc_243_3 : zt_243_3.all (zRowOk 243) = true := by decide +kernel
theorem zw_243_3 : ∀ w ∈ zt_243_3.flatMap (zNds 243), zWd w := zPls_ok2 [896, 72, 895, 894, 1778, 84, 1776, 1777, 1775, 903, 72, 902, 901, 1788, 84, 1786, 1787, 1785, 975, 72, 974, 973, 1892, 84, 1890, 1891, 1889, 982, 72, 981, 980, 1913, 84, 1911, 1912, 1910, 993, 72, 992, 991] (by decide +kernel) (by decide +kernel)
theorem zc_243_4 : zt_243_4.all (zRowOk 243) = true := by decide +kernel
theorem zw_243_4 : ∀ w ∈ zt_243_4.flatMap (zNds 243), zWd w := zPls_ok2 [1917, 84, 1915, 1916, 1914, 1000, 72, 999, 998, 1921, 84, 1919, 1920, 1918, 1007, 72, 1006, 1005, 1925, 84, 1923, 1924, 1922, 1018, 72, 1017, 1016, 1929, 84, 1927, 1928, 1926, 1046, 72, 1045, 1044, 1946, 84, 1944, 1945, 1943] (by decide +kernel) (by decide +kernel)

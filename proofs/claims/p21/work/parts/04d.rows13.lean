/-! ===== the check of the rows, group 13 ===== -/
theorem zc_242_1 : zt_242_1.all (zRowOk 242) = true := by decide +kernel
theorem zw_242_1 : ∀ w ∈ zt_242_1.flatMap (zNds 242), zWd w := zPls_ok [1559, 84, 1557, 1558, 1556, 855, 72, 854, 853, 1563, 84, 1561, 1562, 1560, 882, 72, 881, 880] (by decide +kernel) (by decide +kernel)
theorem zc_242_2 : zt_242_2.all (zRowOk 242) = true := by decide +kernel
theorem zw_242_2 : ∀ w ∈ zt_242_2.flatMap (zNds 242), zWd w := zPls_ok [1683, 84, 1681, 1682, 1680, 889, 72, 888, 887, 1715, 84, 1713, 1714, 1712, 896, 72, 895, 894, 1774, 84, 1772, 1773, 1771] (by decide +kernel) (by decide +kernel)
theorem zc_242_3 : zt_242_3.all (zRowOk 242) = true := by decide +kernel
theorem zw_242_3 : ∀ w ∈ zt_242_3.flatMap (zNds 242), zWd w := zPls_ok [903, 72, 902, 901, 1784, 84, 1782, 1783, 1781, 975, 72, 974, 973, 1888, 84, 1886, 1887, 1885, 982, 72, 981, 980, 1909, 84, 1907, 1908, 1906, 993, 72, 992, 991, 1913, 84, 1911, 1912, 1910] (by decide +kernel) (by decide +kernel)
theorem zc_242_4 : zt_242_4.all (zRowOk 242) = true := by decide +kernel
theorem zw_242_4 : ∀ w ∈ zt_242_4.flatMap (zNds 242), zWd w := zPls_ok [1000, 72, 999, 998, 1917, 84, 1915, 1916, 1914, 1007, 72, 1006, 1005, 1921, 84, 1919, 1920, 1918, 1018, 72, 1017, 1016, 1925, 84, 1923, 1924, 1922, 1046, 72, 1045, 1044, 1942, 84, 1940, 1941, 1939, 1053, 72, 1052, 1051] (by decide +kernel) (by decide +kernel)
theorem zc_242_5 : zt_242_5.all (zRowOk 242) = true := by decide +kernel
theorem zw_242_5 : ∀ w ∈ zt_242_5.flatMap (zNds 242), zWd w := zPls_ok [1946, 84, 1944, 1945, 1943, 1060, 72, 1059, 1058, 1950, 84, 1948, 1949, 1947, 1076, 72, 1075, 1074, 2016, 84, 2014, 2015, 2013, 1083, 72, 1082, 1081, 2020, 84, 2018, 2019, 2017, 504, 73, 502, 503, 501, 2024, 84, 2022, 2023, 2021, 1090, 72, 1089, 1088, 2028, 84, 2026, 2027, 2025] (by decide +kernel) (by decide +kernel)
theorem zc_242_6 : zt_242_6.all (zRowOk 242) = true := by decide +kernel
theorem zw_242_6 : ∀ w ∈ zt_242_6.flatMap (zNds 242), zWd w := zPls_ok [1097, 72, 1096, 1095, 2032, 84, 2030, 2031, 2029, 1101, 72, 1100, 1099, 2040, 84, 2038, 2039, 2037, 1105, 72, 1104, 1103, 2054, 84, 2052, 2053, 2051, 1116, 72, 1115, 1114, 2058, 84, 2056, 2057, 2055] (by decide +kernel) (by decide +kernel)

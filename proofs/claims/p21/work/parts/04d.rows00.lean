/-! ===== the check of the rows, group 0 ===== -/
theorem zc_0 : zt_0.all (zRowOk 0) = true := by decide +kernel
theorem zw_0 : ∀ w ∈ zt_0.flatMap (zNds 0), zWd w := zPls_ok [206, 207, 208, 78, 211, 78, 210, 209, 271, 277, 281, 283, 268] (by decide +kernel) (by decide +kernel)
theorem zc_1 : zt_1.all (zRowOk 1) = true := by decide +kernel
theorem zw_1 : ∀ w ∈ zt_1.flatMap (zNds 1), zWd w := zPls_ok [281, 281, 283, 283] (by decide +kernel) (by decide +kernel)
theorem zc_2 : zt_2.all (zRowOk 2) = true := by decide +kernel
theorem zw_2 : ∀ w ∈ zt_2.flatMap (zNds 2), zWd w := zPls_ok [212, 228, 230, 237, 180, 243, 180, 244] (by decide +kernel) (by decide +kernel)
theorem zc_3 : zt_3.all (zRowOk 3) = true := by decide +kernel
theorem zw_3 : ∀ w ∈ zt_3.flatMap (zNds 3), zWd w := zPls_ok [241, 243, 241, 244, 241, 241, 241, 230, 678, 99, 677, 954, 230, 228, 681, 99, 680, 955, 228] (by decide +kernel) (by decide +kernel)
theorem zc_4 : zt_4.all (zRowOk 4) = true := by decide +kernel
theorem zw_4 : ∀ w ∈ zt_4.flatMap (zNds 4), zWd w := zPls_ok [241, 243, 244, 244] (by decide +kernel) (by decide +kernel)
theorem zc_5 : zt_5.all (zRowOk 5) = true := by decide +kernel
theorem zw_5 : ∀ w ∈ zt_5.flatMap (zNds 5), zWd w := zPls_ok [403, 216, 219, 397, 408, 222, 222, 408, 225, 413, 228, 413, 230] (by decide +kernel) (by decide +kernel)
theorem zc_6 : zt_6.all (zRowOk 6) = true := by decide +kernel
theorem zw_6 : ∀ w ∈ zt_6.flatMap (zNds 6), zWd w := zPls_ok [1200, 107, 1198, 1199, 1197, 216, 1291, 107, 1289, 1290, 1288, 1200, 107, 1198, 1199, 1197, 219, 1291, 107, 1289, 1290, 1288, 222, 1324, 78, 1323, 1322, 225, 1324, 78, 1323, 1322, 241, 243, 1200, 107, 1198, 1199, 1197, 244, 1291, 107, 1289, 1290, 1288, 1200, 107, 1198, 1199, 1197, 234, 234, 1291, 107, 1289, 1290, 1288, 234, 1200, 107, 1198, 1199, 1197, 1200, 107, 1198, 1199, 1197, 234, 1291, 107, 1289, 1290, 1288, 237, 1200, 107, 1198, 1199, 1197, 237, 1291, 107, 1289, 1290, 1288] (by decide +kernel) (by decide +kernel)
theorem zc_7 : zt_7.all (zRowOk 7) = true := by decide +kernel
theorem zw_7 : ∀ w ∈ zt_7.flatMap (zNds 7), zWd w := zPls_ok [1200, 107, 1198, 1199, 1197, 1291, 107, 1289, 1290, 1288] (by decide +kernel) (by decide +kernel)
theorem zc_8 : zt_8.all (zRowOk 8) = true := by decide +kernel
theorem zw_8 : ∀ w ∈ zt_8.flatMap (zNds 8), zWd w := zPls_ok [199, 200, 201, 300, 303, 300, 200, 202, 77, 205, 77, 204, 203] (by decide +kernel) (by decide +kernel)
theorem zc_9 : zt_9.all (zRowOk 9) = true := by decide +kernel
theorem zw_9 : ∀ w ∈ zt_9.flatMap (zNds 9), zWd w := zPls_ok [300, 272, 305, 681, 99, 680, 968, 305, 972, 76, 971, 34, 969] (by decide +kernel) (by decide +kernel)
theorem zc_10 : zt_10.all (zRowOk 10) = true := by decide +kernel
theorem zw_10 : ∀ w ∈ zt_10.flatMap (zNds 10), zWd w := zPls_ok [307, 308, 305, 300, 285, 305, 300, 272, 238, 305, 307, 307, 300, 285, 285, 233, 308, 308] (by decide +kernel) (by decide +kernel)
theorem zc_11 : zt_11.all (zRowOk 11) = true := by decide +kernel
theorem zw_11 : ∀ w ∈ zt_11.flatMap (zNds 11), zWd w := zPls_ok [305, 300, 279] (by decide +kernel) (by decide +kernel)
theorem zc_12 : zt_12.all (zRowOk 12) = true := by decide +kernel
theorem zw_12 : ∀ w ∈ zt_12.flatMap (zNds 12), zWd w := zPls_ok [305, 300, 540, 77, 538, 539, 630] (by decide +kernel) (by decide +kernel)
theorem zc_13 : zt_13.all (zRowOk 13) = true := by decide +kernel
theorem zw_13 : ∀ w ∈ zt_13.flatMap (zNds 13), zWd w := zPls_ok [656, 76, 655, 9, 653, 307, 308, 303, 664, 74, 662, 663, 661, 307, 685, 76, 684, 10, 682] (by decide +kernel) (by decide +kernel)
theorem zc_14 : zt_14.all (zRowOk 14) = true := by decide +kernel
theorem zw_14 : ∀ w ∈ zt_14.flatMap (zNds 14), zWd w := zPls_ok [303, 664, 74, 662, 663, 661, 656, 76, 655, 9, 653, 689, 76, 688, 11, 686] (by decide +kernel) (by decide +kernel)
theorem zc_15 : zt_15.all (zRowOk 15) = true := by decide +kernel
theorem zw_15 : ∀ w ∈ zt_15.flatMap (zNds 15), zWd w := zPls_ok [305, 300, 272, 660, 78, 658, 659, 657] (by decide +kernel) (by decide +kernel)
theorem zc_16 : zt_16.all (zRowOk 16) = true := by decide +kernel
theorem zw_16 : ∀ w ∈ zt_16.flatMap (zNds 16), zWd w := zPls_ok [305, 689, 76, 688, 11, 686] (by decide +kernel) (by decide +kernel)
theorem zc_17 : zt_17.all (zRowOk 17) = true := by decide +kernel
theorem zw_17 : ∀ w ∈ zt_17.flatMap (zNds 17), zWd w := zPls_ok [305, 300, 285, 685, 76, 684, 10, 682, 272, 233, 689, 76, 688, 11, 686] (by decide +kernel) (by decide +kernel)

/-! ===== the check of the rows, group 1 ===== -/
theorem zc_18 : zt_18.all (zRowOk 18) = true := by decide +kernel
theorem zw_18 : ∀ w ∈ zt_18.flatMap (zNds 18), zWd w := zPls_ok [128, 129, 130, 181, 180, 183, 181, 129, 131, 75, 134, 75, 133, 132] (by decide +kernel) (by decide +kernel)
theorem zc_19 : zt_19.all (zRowOk 19) = true := by decide +kernel
theorem zw_19 : ∀ w ∈ zt_19.flatMap (zNds 19), zWd w := zPls_ok [185, 181, 136, 672, 75, 670, 671, 669, 155, 155, 146, 155, 146] (by decide +kernel) (by decide +kernel)
theorem zc_20 : zt_20.all (zRowOk 20) = true := by decide +kernel
theorem zw_20 : ∀ w ∈ zt_20.flatMap (zNds 20), zWd w := zPls_ok [183, 401, 389, 668, 74, 666, 667, 665, 392, 668, 74, 666, 667, 665, 389, 668, 74, 666, 667, 665, 675, 74, 674, 673] (by decide +kernel) (by decide +kernel)
theorem zc_21 : zt_21.all (zRowOk 21) = true := by decide +kernel
theorem zw_21 : ∀ w ∈ zt_21.flatMap (zNds 21), zWd w := zPls_ok [678, 99, 677, 676, 681, 99, 680, 679] (by decide +kernel) (by decide +kernel)
theorem zc_22 : zt_22.all (zRowOk 22) = true := by decide +kernel
theorem zw_22 : ∀ w ∈ zt_22.flatMap (zNds 22), zWd w := zPls_ok [387, 416, 418] (by decide +kernel) (by decide +kernel)
theorem zc_23 : zt_23.all (zRowOk 23) = true := by decide +kernel
theorem zw_23 : ∀ w ∈ zt_23.flatMap (zNds 23), zWd w := zPls_ok [410] (by decide +kernel) (by decide +kernel)
theorem zc_24 : zt_24.all (zRowOk 24) = true := by decide +kernel
theorem zw_24 : ∀ w ∈ zt_24.flatMap (zNds 24), zWd w := zPls_ok [416, 416, 402, 402, 396, 396, 407, 407] (by decide +kernel) (by decide +kernel)
theorem zc_25 : zt_25.all (zRowOk 25) = true := by decide +kernel
theorem zw_25 : ∀ w ∈ zt_25.flatMap (zNds 25), zWd w := zPls_ok [363, 180, 364] (by decide +kernel) (by decide +kernel)
theorem zc_26 : zt_26.all (zRowOk 26) = true := by decide +kernel
theorem zw_26 : ∀ w ∈ zt_26.flatMap (zNds 26), zWd w := zPls_ok [368, 921, 81, 920, 24, 918, 937, 81, 936, 28, 934, 941, 81, 940, 29, 938, 959, 81, 958, 32, 956, 963, 81, 962, 33, 960, 929, 81, 928, 26, 926] (by decide +kernel) (by decide +kernel)
theorem zc_27 : zt_27.all (zRowOk 27) = true := by decide +kernel
theorem zw_27 : ∀ w ∈ zt_27.flatMap (zNds 27), zWd w := zPls_ok [925, 81, 924, 25, 922, 933, 81, 932, 27, 930, 215, 215] (by decide +kernel) (by decide +kernel)
theorem zc_28 : zt_28.all (zRowOk 28) = true := by decide +kernel
theorem zw_28 : ∀ w ∈ zt_28.flatMap (zNds 28), zWd w := zPls_ok [925, 81, 924, 25, 922, 933, 81, 932, 27, 930, 220, 220] (by decide +kernel) (by decide +kernel)
theorem zc_29 : zt_29.all (zRowOk 29) = true := by decide +kernel
theorem zw_29 : ∀ w ∈ zt_29.flatMap (zNds 29), zWd w := zPls_ok [925, 81, 924, 25, 922, 945, 81, 944, 30, 942] (by decide +kernel) (by decide +kernel)
theorem zc_30 : zt_30.all (zRowOk 30) = true := by decide +kernel
theorem zw_30 : ∀ w ∈ zt_30.flatMap (zNds 30), zWd w := zPls_ok [929, 81, 928, 26, 926, 368, 368, 933, 81, 932, 27, 930, 223, 223, 226, 226, 368, 368, 949, 81, 948, 31, 946, 953, 78, 951, 952, 950] (by decide +kernel) (by decide +kernel)
theorem zc_31 : zt_31.all (zRowOk 31) = true := by decide +kernel
theorem zw_31 : ∀ w ∈ zt_31.flatMap (zNds 31), zWd w := zPls_ok [925, 81, 924, 25, 922, 235, 925, 81, 924, 25, 922, 949, 81, 948, 31, 946, 235, 949, 81, 948, 31, 946, 235, 235] (by decide +kernel) (by decide +kernel)
theorem zc_32 : zt_32.all (zRowOk 32) = true := by decide +kernel
theorem zw_32 : ∀ w ∈ zt_32.flatMap (zNds 32), zWd w := zPls_ok [925, 81, 924, 25, 922, 949, 81, 948, 31, 946, 239, 239] (by decide +kernel) (by decide +kernel)
theorem zc_33 : zt_33.all (zRowOk 33) = true := by decide +kernel
theorem zw_33 : ∀ w ∈ zt_33.flatMap (zNds 33), zWd w := zPls_ok [368, 367, 364, 368, 368, 368, 368, 367, 364, 368] (by decide +kernel) (by decide +kernel)
theorem zc_34 : zt_34.all (zRowOk 34) = true := by decide +kernel
theorem zw_34 : ∀ w ∈ zt_34.flatMap (zNds 34), zWd w := zPls_ok [929, 81, 928, 26, 926, 368, 368] (by decide +kernel) (by decide +kernel)
theorem zc_35 : zt_35.all (zRowOk 35) = true := by decide +kernel
theorem zw_35 : ∀ w ∈ zt_35.flatMap (zNds 35), zWd w := zPls_ok [929, 81, 928, 26, 926, 368, 368] (by decide +kernel) (by decide +kernel)
theorem zc_36 : zt_36.all (zRowOk 36) = true := by decide +kernel
theorem zw_36 : ∀ w ∈ zt_36.flatMap (zNds 36), zWd w := zPls_ok [933, 81, 932, 27, 930, 368, 367, 364, 368, 933, 81, 932, 27, 930] (by decide +kernel) (by decide +kernel)
theorem zc_37 : zt_37.all (zRowOk 37) = true := by decide +kernel
theorem zw_37 : ∀ w ∈ zt_37.flatMap (zNds 37), zWd w := zPls_ok [332, 180, 333, 180, 336, 341, 336] (by decide +kernel) (by decide +kernel)
theorem zc_38 : zt_38.all (zRowOk 38) = true := by decide +kernel
theorem zw_38 : ∀ w ∈ zt_38.flatMap (zNds 38), zWd w := zPls_ok [333, 213, 232, 339, 232] (by decide +kernel) (by decide +kernel)
theorem zc_39 : zt_39.all (zRowOk 39) = true := by decide +kernel
theorem zw_39 : ∀ w ∈ zt_39.flatMap (zNds 39), zWd w := zPls_ok [341, 269, 274, 747, 80, 745, 746, 1035, 1038, 96, 1037, 1036] (by decide +kernel) (by decide +kernel)
theorem zc_40 : zt_40.all (zRowOk 40) = true := by decide +kernel
theorem zw_40 : ∀ w ∈ zt_40.flatMap (zNds 40), zWd w := zPls_ok [381, 382, 383, 83, 386, 83, 385, 384, 439, 180, 441, 180, 443] (by decide +kernel) (by decide +kernel)

/-! ===== the check of the rows, group 0 ===== -/
theorem zc_0 : zt_0.all (zRowOk 0) = true := by decide +kernel
theorem zw_0 : ∀ w ∈ zt_0.flatMap (zNds 0), zWd w := zPls_ok [206, 207, 208, 78, 211, 78, 210, 209, 271, 277, 281, 283, 268] (by decide +kernel) (by decide +kernel)
theorem zc_1 : zt_1.all (zRowOk 1) = true := by decide +kernel
theorem zw_1 : ∀ w ∈ zt_1.flatMap (zNds 1), zWd w := zPls_ok [281, 281, 283, 283] (by decide +kernel) (by decide +kernel)
theorem zc_2 : zt_2.all (zRowOk 2) = true := by decide +kernel
theorem zw_2 : ∀ w ∈ zt_2.flatMap (zNds 2), zWd w := zPls_ok [212, 228, 230, 237, 180, 243, 180, 244] (by decide +kernel) (by decide +kernel)
theorem zc_3 : zt_3.all (zRowOk 3) = true := by decide +kernel
theorem zw_3 : ∀ w ∈ zt_3.flatMap (zNds 3), zWd w := zPls_ok [241, 243, 241, 244, 241, 241, 241, 230, 678, 99, 677, 954, 230, 228, 681, 99, 680, 955, 228] (by decide +kernel) (by decide +kernel)
theorem zc_4 : zt_4.all (zRowOk 4) = true := by decide +kernel
theorem zw_4 : ∀ w ∈ zt_4.flatMap (zNds 4), zWd w := zPls_ok [241, 243, 244, 244] (by decide +kernel) (by decide +kernel)
theorem zc_5 : zt_5.all (zRowOk 5) = true := by decide +kernel
theorem zw_5 : ∀ w ∈ zt_5.flatMap (zNds 5), zWd w := zPls_ok [403, 216, 219, 397, 408, 222, 222, 408, 225, 413, 228, 413, 230] (by decide +kernel) (by decide +kernel)
theorem zc_6 : zt_6.all (zRowOk 6) = true := by decide +kernel
theorem zw_6 : ∀ w ∈ zt_6.flatMap (zNds 6), zWd w := zPls_ok [1200, 107, 1198, 1199, 1197, 216, 1291, 107, 1289, 1290, 1288, 1200, 107, 1198, 1199, 1197, 219, 1291, 107, 1289, 1290, 1288, 222, 1324, 78, 1323, 1322, 225, 1324, 78, 1323, 1322, 241, 243, 1200, 107, 1198, 1199, 1197, 244, 1291, 107, 1289, 1290, 1288, 1200, 107, 1198, 1199, 1197, 234, 234, 1291, 107, 1289, 1290, 1288, 234, 1200, 107, 1198, 1199, 1197, 1200, 107, 1198, 1199, 1197, 234, 1291, 107, 1289, 1290, 1288, 237, 1200, 107, 1198, 1199, 1197, 237, 1291, 107, 1289, 1290, 1288] (by decide +kernel) (by decide +kernel)
theorem zc_7 : zt_7.all (zRowOk 7) = true := by decide +kernel
theorem zw_7 : ∀ w ∈ zt_7.flatMap (zNds 7), zWd w := zPls_ok [1200, 107, 1198, 1199, 1197, 1291, 107, 1289, 1290, 1288] (by decide +kernel) (by decide +kernel)
theorem zc_8 : zt_8.all (zRowOk 8) = true := by decide +kernel
theorem zw_8 : ∀ w ∈ zt_8.flatMap (zNds 8), zWd w := zPls_ok [199, 200, 201, 300, 303, 300, 200, 202, 77, 205, 77, 204, 203] (by decide +kernel) (by decide +kernel)
theorem zc_9 : zt_9.all (zRowOk 9) = true := by decide +kernel
theorem zw_9 : ∀ w ∈ zt_9.flatMap (zNds 9), zWd w := zPls_ok [300, 272, 305, 681, 99, 680, 968, 305, 972, 76, 971, 34, 969] (by decide +kernel) (by decide +kernel)
theorem zc_10 : zt_10.all (zRowOk 10) = true := by decide +kernel
theorem zw_10 : ∀ w ∈ zt_10.flatMap (zNds 10), zWd w := zPls_ok [307, 308, 305, 300, 285, 305, 300, 272, 238, 305, 307, 307, 300, 285, 285, 233, 308, 308] (by decide +kernel) (by decide +kernel)
theorem zc_11 : zt_11.all (zRowOk 11) = true := by decide +kernel
theorem zw_11 : ∀ w ∈ zt_11.flatMap (zNds 11), zWd w := zPls_ok [305, 300, 279] (by decide +kernel) (by decide +kernel)
theorem zc_12 : zt_12.all (zRowOk 12) = true := by decide +kernel
theorem zw_12 : ∀ w ∈ zt_12.flatMap (zNds 12), zWd w := zPls_ok [305, 300, 540, 77, 538, 539, 630] (by decide +kernel) (by decide +kernel)
theorem zc_13 : zt_13.all (zRowOk 13) = true := by decide +kernel
theorem zw_13 : ∀ w ∈ zt_13.flatMap (zNds 13), zWd w := zPls_ok [656, 76, 655, 9, 653, 307, 308, 303, 664, 74, 662, 663, 661, 307, 685, 76, 684, 10, 682] (by decide +kernel) (by decide +kernel)
theorem zc_14 : zt_14.all (zRowOk 14) = true := by decide +kernel
theorem zw_14 : ∀ w ∈ zt_14.flatMap (zNds 14), zWd w := zPls_ok [303, 664, 74, 662, 663, 661, 656, 76, 655, 9, 653, 689, 76, 688, 11, 686] (by decide +kernel) (by decide +kernel)
theorem zc_15 : zt_15.all (zRowOk 15) = true := by decide +kernel
theorem zw_15 : ∀ w ∈ zt_15.flatMap (zNds 15), zWd w := zPls_ok [305, 300, 272, 660, 78, 658, 659, 657] (by decide +kernel) (by decide +kernel)
theorem zc_16 : zt_16.all (zRowOk 16) = true := by decide +kernel
theorem zw_16 : ∀ w ∈ zt_16.flatMap (zNds 16), zWd w := zPls_ok [305, 689, 76, 688, 11, 686] (by decide +kernel) (by decide +kernel)
theorem zc_17 : zt_17.all (zRowOk 17) = true := by decide +kernel
theorem zw_17 : ∀ w ∈ zt_17.flatMap (zNds 17), zWd w := zPls_ok [305, 300, 285, 685, 76, 684, 10, 682, 272, 233, 689, 76, 688, 11, 686] (by decide +kernel) (by decide +kernel)
theorem zc_18 : zt_18.all (zRowOk 18) = true := by decide +kernel
theorem zw_18 : ∀ w ∈ zt_18.flatMap (zNds 18), zWd w := zPls_ok [128, 129, 130, 181, 180, 183, 181, 129, 131, 75, 134, 75, 133, 132] (by decide +kernel) (by decide +kernel)
theorem zc_19 : zt_19.all (zRowOk 19) = true := by decide +kernel
theorem zw_19 : ∀ w ∈ zt_19.flatMap (zNds 19), zWd w := zPls_ok [185, 181, 136, 672, 75, 670, 671, 669, 155, 155, 146, 155, 146] (by decide +kernel) (by decide +kernel)
theorem zc_20 : zt_20.all (zRowOk 20) = true := by decide +kernel
theorem zw_20 : ∀ w ∈ zt_20.flatMap (zNds 20), zWd w := zPls_ok [183, 401, 389, 668, 74, 666, 667, 665, 392, 668, 74, 666, 667, 665, 389, 668, 74, 666, 667, 665, 675, 74, 674, 673] (by decide +kernel) (by decide +kernel)
theorem zc_21 : zt_21.all (zRowOk 21) = true := by decide +kernel
theorem zw_21 : ∀ w ∈ zt_21.flatMap (zNds 21), zWd w := zPls_ok [678, 99, 677, 676, 681, 99, 680, 679] (by decide +kernel) (by decide +kernel)
theorem zc_22 : zt_22.all (zRowOk 22) = true := by decide +kernel
theorem zw_22 : ∀ w ∈ zt_22.flatMap (zNds 22), zWd w := zPls_ok [387, 416, 418] (by decide +kernel) (by decide +kernel)
theorem zc_23 : zt_23.all (zRowOk 23) = true := by decide +kernel
theorem zw_23 : ∀ w ∈ zt_23.flatMap (zNds 23), zWd w := zPls_ok [410] (by decide +kernel) (by decide +kernel)
theorem zc_24 : zt_24.all (zRowOk 24) = true := by decide +kernel
theorem zw_24 : ∀ w ∈ zt_24.flatMap (zNds 24), zWd w := zPls_ok [416, 416, 402, 402, 396, 396, 407, 407] (by decide +kernel) (by decide +kernel)
theorem zc_25 : zt_25.all (zRowOk 25) = true := by decide +kernel
theorem zw_25 : ∀ w ∈ zt_25.flatMap (zNds 25), zWd w := zPls_ok [363, 180, 364] (by decide +kernel) (by decide +kernel)
theorem zc_26 : zt_26.all (zRowOk 26) = true := by decide +kernel
theorem zw_26 : ∀ w ∈ zt_26.flatMap (zNds 26), zWd w := zPls_ok [368, 921, 81, 920, 24, 918, 937, 81, 936, 28, 934, 941, 81, 940, 29, 938, 959, 81, 958, 32, 956, 963, 81, 962, 33, 960, 929, 81, 928, 26, 926] (by decide +kernel) (by decide +kernel)
theorem zc_27 : zt_27.all (zRowOk 27) = true := by decide +kernel
theorem zw_27 : ∀ w ∈ zt_27.flatMap (zNds 27), zWd w := zPls_ok [925, 81, 924, 25, 922, 933, 81, 932, 27, 930, 215, 215] (by decide +kernel) (by decide +kernel)
theorem zc_28 : zt_28.all (zRowOk 28) = true := by decide +kernel
theorem zw_28 : ∀ w ∈ zt_28.flatMap (zNds 28), zWd w := zPls_ok [925, 81, 924, 25, 922, 933, 81, 932, 27, 930, 220, 220] (by decide +kernel) (by decide +kernel)
theorem zc_29 : zt_29.all (zRowOk 29) = true := by decide +kernel
theorem zw_29 : ∀ w ∈ zt_29.flatMap (zNds 29), zWd w := zPls_ok [925, 81, 924, 25, 922, 945, 81, 944, 30, 942] (by decide +kernel) (by decide +kernel)
theorem zc_30 : zt_30.all (zRowOk 30) = true := by decide +kernel
theorem zw_30 : ∀ w ∈ zt_30.flatMap (zNds 30), zWd w := zPls_ok [929, 81, 928, 26, 926, 368, 368, 933, 81, 932, 27, 930, 223, 223, 226, 226, 368, 368, 949, 81, 948, 31, 946, 953, 78, 951, 952, 950] (by decide +kernel) (by decide +kernel)
theorem zc_31 : zt_31.all (zRowOk 31) = true := by decide +kernel
theorem zw_31 : ∀ w ∈ zt_31.flatMap (zNds 31), zWd w := zPls_ok [925, 81, 924, 25, 922, 235, 925, 81, 924, 25, 922, 949, 81, 948, 31, 946, 235, 949, 81, 948, 31, 946, 235, 235] (by decide +kernel) (by decide +kernel)
theorem zc_32 : zt_32.all (zRowOk 32) = true := by decide +kernel
theorem zw_32 : ∀ w ∈ zt_32.flatMap (zNds 32), zWd w := zPls_ok [925, 81, 924, 25, 922, 949, 81, 948, 31, 946, 239, 239] (by decide +kernel) (by decide +kernel)
theorem zc_33 : zt_33.all (zRowOk 33) = true := by decide +kernel
theorem zw_33 : ∀ w ∈ zt_33.flatMap (zNds 33), zWd w := zPls_ok [368, 367, 364, 368, 368, 368, 368, 367, 364, 368] (by decide +kernel) (by decide +kernel)
theorem zc_34 : zt_34.all (zRowOk 34) = true := by decide +kernel
theorem zw_34 : ∀ w ∈ zt_34.flatMap (zNds 34), zWd w := zPls_ok [929, 81, 928, 26, 926, 368, 368] (by decide +kernel) (by decide +kernel)
theorem zc_35 : zt_35.all (zRowOk 35) = true := by decide +kernel
theorem zw_35 : ∀ w ∈ zt_35.flatMap (zNds 35), zWd w := zPls_ok [929, 81, 928, 26, 926, 368, 368] (by decide +kernel) (by decide +kernel)
theorem zc_36 : zt_36.all (zRowOk 36) = true := by decide +kernel
theorem zw_36 : ∀ w ∈ zt_36.flatMap (zNds 36), zWd w := zPls_ok [933, 81, 932, 27, 930, 368, 367, 364, 368, 933, 81, 932, 27, 930] (by decide +kernel) (by decide +kernel)
theorem zc_37 : zt_37.all (zRowOk 37) = true := by decide +kernel
theorem zw_37 : ∀ w ∈ zt_37.flatMap (zNds 37), zWd w := zPls_ok [332, 180, 333, 180, 336, 341, 336] (by decide +kernel) (by decide +kernel)
theorem zc_38 : zt_38.all (zRowOk 38) = true := by decide +kernel
theorem zw_38 : ∀ w ∈ zt_38.flatMap (zNds 38), zWd w := zPls_ok [333, 213, 232, 339, 232] (by decide +kernel) (by decide +kernel)
theorem zc_39 : zt_39.all (zRowOk 39) = true := by decide +kernel
theorem zw_39 : ∀ w ∈ zt_39.flatMap (zNds 39), zWd w := zPls_ok [341, 269, 274, 747, 80, 745, 746, 1035, 1038, 96, 1037, 1036] (by decide +kernel) (by decide +kernel)
theorem zc_40 : zt_40.all (zRowOk 40) = true := by decide +kernel
theorem zw_40 : ∀ w ∈ zt_40.flatMap (zNds 40), zWd w := zPls_ok [381, 382, 383, 83, 386, 83, 385, 384, 439, 180, 441, 180, 443] (by decide +kernel) (by decide +kernel)
theorem zc_41 : zt_41.all (zRowOk 41) = true := by decide +kernel
theorem zw_41 : ∀ w ∈ zt_41.flatMap (zNds 41), zWd w := zPls_ok [444, 767, 82, 766, 17, 764, 304, 301, 273, 214, 278, 273, 771, 82, 770, 18, 768, 439, 388, 439, 391, 439, 400, 439, 395, 439, 406, 445, 439, 443, 412] (by decide +kernel) (by decide +kernel)
theorem zc_42 : zt_42.all (zRowOk 42) = true := by decide +kernel
theorem zw_42 : ∀ w ∈ zt_42.flatMap (zNds 42), zWd w := zPls_ok [242, 775, 78, 773, 774, 772, 767, 82, 766, 17, 764] (by decide +kernel) (by decide +kernel)
theorem zc_43 : zt_43.all (zRowOk 43) = true := by decide +kernel
theorem zw_43 : ∀ w ∈ zt_43.flatMap (zNds 43), zWd w := zPls_ok [444, 444, 443, 444, 443, 444, 443, 443, 443, 444, 444] (by decide +kernel) (by decide +kernel)
theorem zc_44 : zt_44.all (zRowOk 44) = true := by decide +kernel
theorem zw_44 : ∀ w ∈ zt_44.flatMap (zNds 44), zWd w := zPls_ok [444] (by decide +kernel) (by decide +kernel)
theorem zc_45 : zt_45.all (zRowOk 45) = true := by decide +kernel
theorem zw_45 : ∀ w ∈ zt_45.flatMap (zNds 45), zWd w := zPls_ok [445, 445, 445, 444, 445, 439, 406, 406, 439, 406, 439, 406, 439, 395, 395, 439, 443, 445, 412] (by decide +kernel) (by decide +kernel)

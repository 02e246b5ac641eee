/-! ===== the check of the rows, group 0 ===== -/
theorem zc_0 : zt_0.all (zRowOk 0) = true := by decide +kernel
theorem zw_0 : ∀ w ∈ zt_0.flatMap (zNds 0), zWd w := zPls_ok2 [206, 207, 208, 78, 211, 78, 210, 209, 271, 277, 281, 283, 268] (by decide +kernel) (by decide +kernel)
theorem zc_1 : zt_1.all (zRowOk 1) = true := by decide +kernel
theorem zw_1 : ∀ w ∈ zt_1.flatMap (zNds 1), zWd w := zPls_ok2 [281, 281, 283, 283] (by decide +kernel) (by decide +kernel)
theorem zc_2 : zt_2.all (zRowOk 2) = true := by decide +kernel
theorem zw_2 : ∀ w ∈ zt_2.flatMap (zNds 2), zWd w := zPls_ok2 [212, 228, 230, 237, 180, 243, 180, 244] (by decide +kernel) (by decide +kernel)
theorem zc_3 : zt_3.all (zRowOk 3) = true := by decide +kernel
theorem zw_3 : ∀ w ∈ zt_3.flatMap (zNds 3), zWd w := zPls_ok2 [241, 243, 241, 244, 241, 241, 241, 230, 678, 99, 677, 954, 230, 228, 681, 99, 680, 955, 228] (by decide +kernel) (by decide +kernel)
theorem zc_4 : zt_4.all (zRowOk 4) = true := by decide +kernel
theorem zw_4 : ∀ w ∈ zt_4.flatMap (zNds 4), zWd w := zPls_ok2 [241, 243, 244, 244] (by decide +kernel) (by decide +kernel)
theorem zc_5 : zt_5.all (zRowOk 5) = true := by decide +kernel
theorem zw_5 : ∀ w ∈ zt_5.flatMap (zNds 5), zWd w := zPls_ok2 [403, 216, 219, 397, 408, 222, 222, 408, 225, 413, 228, 413, 230] (by decide +kernel) (by decide +kernel)
theorem zc_6 : zt_6.all (zRowOk 6) = true := by decide +kernel
theorem zw_6 : ∀ w ∈ zt_6.flatMap (zNds 6), zWd w := zPls_ok2 [1200, 107, 1198, 1199, 1197, 216, 1291, 107, 1289, 1290, 1288, 1200, 107, 1198, 1199, 1197, 219, 1291, 107, 1289, 1290, 1288, 222, 1324, 78, 1323, 1322, 225, 1324, 78, 1323, 1322, 241, 243, 1200, 107, 1198, 1199, 1197, 244, 1291, 107, 1289, 1290, 1288, 1200, 107, 1198, 1199, 1197, 234, 234, 1291, 107, 1289, 1290, 1288, 234, 1200, 107, 1198, 1199, 1197, 1200, 107, 1198, 1199, 1197, 234, 1291, 107, 1289, 1290, 1288, 237, 1200, 107, 1198, 1199, 1197, 237, 1291, 107, 1289, 1290, 1288] (by decide +kernel) (by decide +kernel)
theorem zc_7 : zt_7.all (zRowOk 7) = true := by decide +kernel
theorem zw_7 : ∀ w ∈ zt_7.flatMap (zNds 7), zWd w := zPls_ok2 [1200, 107, 1198, 1199, 1197, 1291, 107, 1289, 1290, 1288] (by decide +kernel) (by decide +kernel)
theorem zc_8 : zt_8.all (zRowOk 8) = true := by decide +kernel
theorem zw_8 : ∀ w ∈ zt_8.flatMap (zNds 8), zWd w := zPls_ok2 [199, 200, 201, 300, 303, 300, 200, 202, 77, 205, 77, 204, 203] (by decide +kernel) (by decide +kernel)
theorem zc_9 : zt_9.all (zRowOk 9) = true := by decide +kernel
theorem zw_9 : ∀ w ∈ zt_9.flatMap (zNds 9), zWd w := zPls_ok2 [300, 272, 305, 681, 99, 680, 968, 305, 972, 76, 971, 34, 969] (by decide +kernel) (by decide +kernel)
theorem zc_10 : zt_10.all (zRowOk 10) = true := by decide +kernel
theorem zw_10 : ∀ w ∈ zt_10.flatMap (zNds 10), zWd w := zPls_ok2 [307, 308, 305, 300, 285, 305, 300, 272, 238, 305, 307, 307, 300, 285, 285, 233, 308, 308] (by decide +kernel) (by decide +kernel)
theorem zc_11 : zt_11.all (zRowOk 11) = true := by decide +kernel
theorem zw_11 : ∀ w ∈ zt_11.flatMap (zNds 11), zWd w := zPls_ok2 [305, 300, 279] (by decide +kernel) (by decide +kernel)
theorem zc_12 : zt_12.all (zRowOk 12) = true := by decide +kernel
theorem zw_12 : ∀ w ∈ zt_12.flatMap (zNds 12), zWd w := zPls_ok2 [305, 300, 540, 77, 538, 539, 630] (by decide +kernel) (by decide +kernel)
theorem zc_13 : zt_13.all (zRowOk 13) = true := by decide +kernel
theorem zw_13 : ∀ w ∈ zt_13.flatMap (zNds 13), zWd w := zPls_ok2 [656, 76, 655, 9, 653, 307, 308, 303, 664, 74, 662, 663, 661, 307, 685, 76, 684, 10, 682] (by decide +kernel) (by decide +kernel)
theorem zc_14 : zt_14.all (zRowOk 14) = true := by decide +kernel
theorem zw_14 : ∀ w ∈ zt_14.flatMap (zNds 14), zWd w := zPls_ok2 [303, 664, 74, 662, 663, 661, 656, 76, 655, 9, 653, 689, 76, 688, 11, 686] (by decide +kernel) (by decide +kernel)
theorem zc_15 : zt_15.all (zRowOk 15) = true := by decide +kernel
theorem zw_15 : ∀ w ∈ zt_15.flatMap (zNds 15), zWd w := zPls_ok2 [305, 300, 272, 660, 78, 658, 659, 657] (by decide +kernel) (by decide +kernel)
theorem zc_16 : zt_16.all (zRowOk 16) = true := by decide +kernel
theorem zw_16 : ∀ w ∈ zt_16.flatMap (zNds 16), zWd w := zPls_ok2 [305, 689, 76, 688, 11, 686] (by decide +kernel) (by decide +kernel)
theorem zc_17 : zt_17.all (zRowOk 17) = true := by decide +kernel
theorem zw_17 : ∀ w ∈ zt_17.flatMap (zNds 17), zWd w := zPls_ok2 [305, 300, 285, 685, 76, 684, 10, 682, 272, 233, 689, 76, 688, 11, 686] (by decide +kernel) (by decide +kernel)
theorem zc_18 : zt_18.all (zRowOk 18) = true := by decide +kernel
theorem zw_18 : ∀ w ∈ zt_18.flatMap (zNds 18), zWd w := zPls_ok2 [128, 129, 130, 181, 180, 183, 181, 129, 131, 75, 134, 75, 133, 132] (by decide +kernel) (by decide +kernel)
theorem zc_19 : zt_19.all (zRowOk 19) = true := by decide +kernel
theorem zw_19 : ∀ w ∈ zt_19.flatMap (zNds 19), zWd w := zPls_ok2 [185, 181, 136, 672, 75, 670, 671, 669, 155, 155, 146, 155, 146] (by decide +kernel) (by decide +kernel)
theorem zc_20 : zt_20.all (zRowOk 20) = true := by decide +kernel
theorem zw_20 : ∀ w ∈ zt_20.flatMap (zNds 20), zWd w := zPls_ok2 [183, 401, 389, 668, 74, 666, 667, 665, 392, 668, 74, 666, 667, 665, 389, 668, 74, 666, 667, 665, 675, 74, 674, 673] (by decide +kernel) (by decide +kernel)
theorem zc_21 : zt_21.all (zRowOk 21) = true := by decide +kernel
theorem zw_21 : ∀ w ∈ zt_21.flatMap (zNds 21), zWd w := zPls_ok2 [678, 99, 677, 676, 681, 99, 680, 679] (by decide +kernel) (by decide +kernel)
theorem zc_22 : zt_22.all (zRowOk 22) = true := by decide +kernel
theorem zw_22 : ∀ w ∈ zt_22.flatMap (zNds 22), zWd w := zPls_ok2 [387, 416, 418] (by decide +kernel) (by decide +kernel)
theorem zc_23 : zt_23.all (zRowOk 23) = true := by decide +kernel
theorem zw_23 : ∀ w ∈ zt_23.flatMap (zNds 23), zWd w := zPls_ok2 [410] (by decide +kernel) (by decide +kernel)
theorem zc_24 : zt_24.all (zRowOk 24) = true := by decide +kernel
theorem zw_24 : ∀ w ∈ zt_24.flatMap (zNds 24), zWd w := zPls_ok2 [416, 416, 402, 402, 396, 396, 407, 407] (by decide +kernel) (by decide +kernel)
theorem zc_25 : zt_25.all (zRowOk 25) = true := by decide +kernel
theorem zw_25 : ∀ w ∈ zt_25.flatMap (zNds 25), zWd w := zPls_ok2 [363, 180, 364] (by decide +kernel) (by decide +kernel)
theorem zc_26 : zt_26.all (zRowOk 26) = true := by decide +kernel
theorem zw_26 : ∀ w ∈ zt_26.flatMap (zNds 26), zWd w := zPls_ok2 [368, 921, 81, 920, 24, 918, 937, 81, 936, 28, 934, 941, 81, 940, 29, 938, 959, 81, 958, 32, 956, 963, 81, 962, 33, 960, 929, 81, 928, 26, 926] (by decide +kernel) (by decide +kernel)
theorem zc_27 : zt_27.all (zRowOk 27) = true := by decide +kernel
theorem zw_27 : ∀ w ∈ zt_27.flatMap (zNds 27), zWd w := zPls_ok2 [925, 81, 924, 25, 922, 933, 81, 932, 27, 930, 215, 215] (by decide +kernel) (by decide +kernel)
theorem zc_28 : zt_28.all (zRowOk 28) = true := by decide +kernel
theorem zw_28 : ∀ w ∈ zt_28.flatMap (zNds 28), zWd w := zPls_ok2 [925, 81, 924, 25, 922, 933, 81, 932, 27, 930, 220, 220] (by decide +kernel) (by decide +kernel)
theorem zc_29 : zt_29.all (zRowOk 29) = true := by decide +kernel
theorem zw_29 : ∀ w ∈ zt_29.flatMap (zNds 29), zWd w := zPls_ok2 [925, 81, 924, 25, 922, 945, 81, 944, 30, 942] (by decide +kernel) (by decide +kernel)
theorem zc_30 : zt_30.all (zRowOk 30) = true := by decide +kernel
theorem zw_30 : ∀ w ∈ zt_30.flatMap (zNds 30), zWd w := zPls_ok2 [929, 81, 928, 26, 926, 368, 368, 933, 81, 932, 27, 930, 223, 223, 226, 226, 368, 368, 949, 81, 948, 31, 946, 953, 78, 951, 952, 950] (by decide +kernel) (by decide +kernel)
theorem zc_31 : zt_31.all (zRowOk 31) = true := by decide +kernel
theorem zw_31 : ∀ w ∈ zt_31.flatMap (zNds 31), zWd w := zPls_ok2 [925, 81, 924, 25, 922, 235, 925, 81, 924, 25, 922, 949, 81, 948, 31, 946, 235, 949, 81, 948, 31, 946, 235, 235] (by decide +kernel) (by decide +kernel)
theorem zc_32 : zt_32.all (zRowOk 32) = true := by decide +kernel
theorem zw_32 : ∀ w ∈ zt_32.flatMap (zNds 32), zWd w := zPls_ok2 [925, 81, 924, 25, 922, 949, 81, 948, 31, 946, 239, 239] (by decide +kernel) (by decide +kernel)
theorem zc_33 : zt_33.all (zRowOk 33) = true := by decide +kernel
theorem zw_33 : ∀ w ∈ zt_33.flatMap (zNds 33), zWd w := zPls_ok2 [368, 367, 364, 368, 368, 368, 368, 367, 364, 368] (by decide +kernel) (by decide +kernel)
theorem zc_34 : zt_34.all (zRowOk 34) = true := by decide +kernel
theorem zw_34 : ∀ w ∈ zt_34.flatMap (zNds 34), zWd w := zPls_ok2 [929, 81, 928, 26, 926, 368, 368] (by decide +kernel) (by decide +kernel)
theorem zc_35 : zt_35.all (zRowOk 35) = true := by decide +kernel
theorem zw_35 : ∀ w ∈ zt_35.flatMap (zNds 35), zWd w := zPls_ok2 [929, 81, 928, 26, 926, 368, 368] (by decide +kernel) (by decide +kernel)
theorem zc_36 : zt_36.all (zRowOk 36) = true := by decide +kernel
theorem zw_36 : ∀ w ∈ zt_36.flatMap (zNds 36), zWd w := zPls_ok2 [933, 81, 932, 27, 930, 368, 367, 364, 368, 933, 81, 932, 27, 930] (by decide +kernel) (by decide +kernel)
theorem zc_37 : zt_37.all (zRowOk 37) = true := by decide +kernel
theorem zw_37 : ∀ w ∈ zt_37.flatMap (zNds 37), zWd w := zPls_ok2 [332, 180, 333, 180, 336, 341, 336] (by decide +kernel) (by decide +kernel)
theorem zc_38 : zt_38.all (zRowOk 38) = true := by decide +kernel
theorem zw_38 : ∀ w ∈ zt_38.flatMap (zNds 38), zWd w := zPls_ok2 [333, 213, 232, 339, 232] (by decide +kernel) (by decide +kernel)
theorem zc_39 : zt_39.all (zRowOk 39) = true := by decide +kernel
theorem zw_39 : ∀ w ∈ zt_39.flatMap (zNds 39), zWd w := zPls_ok2 [341, 269, 274, 747, 80, 745, 746, 1035, 1038, 96, 1037, 1036] (by decide +kernel) (by decide +kernel)
theorem zc_40 : zt_40.all (zRowOk 40) = true := by decide +kernel
theorem zw_40 : ∀ w ∈ zt_40.flatMap (zNds 40), zWd w := zPls_ok2 [381, 382, 383, 83, 386, 83, 385, 384, 439, 180, 441, 180, 443] (by decide +kernel) (by decide +kernel)
theorem zc_41 : zt_41.all (zRowOk 41) = true := by decide +kernel
theorem zw_41 : ∀ w ∈ zt_41.flatMap (zNds 41), zWd w := zPls_ok2 [444, 767, 82, 766, 17, 764, 304, 301, 273, 214, 278, 273, 771, 82, 770, 18, 768, 439, 388, 439, 391, 439, 400, 439, 395, 439, 406, 445, 439, 443, 412] (by decide +kernel) (by decide +kernel)
theorem zc_42 : zt_42.all (zRowOk 42) = true := by decide +kernel
theorem zw_42 : ∀ w ∈ zt_42.flatMap (zNds 42), zWd w := zPls_ok2 [242, 775, 78, 773, 774, 772, 767, 82, 766, 17, 764] (by decide +kernel) (by decide +kernel)
theorem zc_43 : zt_43.all (zRowOk 43) = true := by decide +kernel
theorem zw_43 : ∀ w ∈ zt_43.flatMap (zNds 43), zWd w := zPls_ok2 [444, 444, 443, 444, 443, 444, 443, 443, 443, 444, 444] (by decide +kernel) (by decide +kernel)
theorem zc_44 : zt_44.all (zRowOk 44) = true := by decide +kernel
theorem zw_44 : ∀ w ∈ zt_44.flatMap (zNds 44), zWd w := zPls_ok2 [444] (by decide +kernel) (by decide +kernel)
theorem zc_45 : zt_45.all (zRowOk 45) = true := by decide +kernel
theorem zw_45 : ∀ w ∈ zt_45.flatMap (zNds 45), zWd w := zPls_ok2 [445, 445, 445, 444, 445, 439, 406, 406, 439, 406, 439, 406, 439, 395, 395, 439, 443, 445, 412] (by decide +kernel) (by decide +kernel)
theorem zc_46 : zt_46.all (zRowOk 46) = true := by decide +kernel
theorem zw_46 : ∀ w ∈ zt_46.flatMap (zNds 46), zWd w := zPls_ok2 [763, 82, 761, 762, 760, 441, 441, 441, 441, 629, 76, 627, 628, 776, 780, 82, 778, 779, 777, 439, 652, 76, 650, 651, 781, 785, 82, 784, 19, 782, 789, 82, 787, 788, 786] (by decide +kernel) (by decide +kernel)
theorem zc_47 : zt_47.all (zRowOk 47) = true := by decide +kernel
theorem zw_47 : ∀ w ∈ zt_47.flatMap (zNds 47), zWd w := zPls_ok2 [441, 441, 441, 441, 441, 441, 441, 441, 441, 441, 441] (by decide +kernel) (by decide +kernel)
theorem zc_48 : zt_48.all (zRowOk 48) = true := by decide +kernel
theorem zw_48 : ∀ w ∈ zt_48.flatMap (zNds 48), zWd w := zPls_ok2 [325, 326, 327, 353, 353, 326, 328, 80, 331, 80, 330, 329] (by decide +kernel) (by decide +kernel)
theorem zc_49 : zt_49.all (zRowOk 49) = true := by decide +kernel
theorem zw_49 : ∀ w ∈ zt_49.flatMap (zNds 49), zWd w := zPls_ok2 [353, 337] (by decide +kernel) (by decide +kernel)
theorem zc_50 : zt_50.all (zRowOk 50) = true := by decide +kernel
theorem zw_50 : ∀ w ∈ zt_50.flatMap (zNds 50), zWd w := zPls_ok2 [353, 342] (by decide +kernel) (by decide +kernel)
theorem zc_51 : zt_51.all (zRowOk 51) = true := by decide +kernel
theorem zw_51 : ∀ w ∈ zt_51.flatMap (zNds 51), zWd w := zPls_ok2 [353, 337, 353, 1034, 80, 1032, 1033, 1031] (by decide +kernel) (by decide +kernel)
theorem zc_52 : zt_52.all (zRowOk 52) = true := by decide +kernel
theorem zw_52 : ∀ w ∈ zt_52.flatMap (zNds 52), zWd w := zPls_ok2 [1030, 79, 1028, 1029, 1027] (by decide +kernel) (by decide +kernel)
theorem zc_53 : zt_53.all (zRowOk 53) = true := by decide +kernel
theorem zw_53 : ∀ w ∈ zt_53.flatMap (zNds 53), zWd w := zPls_ok2 [275, 217, 353, 342, 270, 342, 334, 334, 681, 99, 680, 1043] (by decide +kernel) (by decide +kernel)
theorem zc_54 : zt_54.all (zRowOk 54) = true := by decide +kernel
theorem zw_54 : ∀ w ∈ zt_54.flatMap (zNds 54), zWd w := zPls_ok2 [135, 149, 151] (by decide +kernel) (by decide +kernel)
theorem zc_55 : zt_55.all (zRowOk 55) = true := by decide +kernel
theorem zw_55 : ∀ w ∈ zt_55.flatMap (zNds 55), zWd w := zPls_ok2 [399, 138, 140, 394, 405, 142, 142, 405, 144, 411, 149, 411, 151, 153] (by decide +kernel) (by decide +kernel)
theorem zc_56 : zt_56.all (zRowOk 56) = true := by decide +kernel
theorem zw_56 : ∀ w ∈ zt_56.flatMap (zNds 56), zWd w := zPls_ok2 [116, 180, 462, 119, 120, 180, 463, 180, 464, 180, 465, 121, 122, 466, 123, 124, 74, 127, 74, 126, 125, 467, 194, 195, 76, 467, 198, 76, 197, 196, 468, 320, 321, 79, 324, 79, 323, 322, 469, 358, 359, 81, 362, 81, 361, 360, 470, 376, 377, 82, 380, 82, 379, 378, 471, 462, 463, 466, 121, 383, 83, 386, 83, 385, 457] (by decide +kernel) (by decide +kernel)
theorem zc_57 : zt_57.all (zRowOk 57) = true := by decide +kernel
theorem zw_57 : ∀ w ∈ zt_57.flatMap (zNds 57), zWd w := zPls_ok2 [701, 73, 700, 699, 553, 73, 552, 551, 462, 462] (by decide +kernel) (by decide +kernel)
theorem zc_58 : zt_58.all (zRowOk 58) = true := by decide +kernel
theorem zw_58 : ∀ w ∈ zt_58.flatMap (zNds 58), zWd w := zPls_ok2 [701, 73, 700, 699, 553, 73, 552, 551, 553, 73, 552, 551, 463, 463, 463, 463, 463] (by decide +kernel) (by decide +kernel)
theorem zc_59 : zt_59.all (zRowOk 59) = true := by decide +kernel
theorem zw_59 : ∀ w ∈ zt_59.flatMap (zNds 59), zWd w := zPls_ok2 [701, 73, 700, 699, 553, 73, 552, 551, 467, 184, 467, 184] (by decide +kernel) (by decide +kernel)
theorem zc_60 : zt_60.all (zRowOk 60) = true := by decide +kernel
theorem zw_60 : ∀ w ∈ zt_60.flatMap (zNds 60), zWd w := zPls_ok2 [701, 73, 700, 699, 701, 73, 700, 699, 553, 73, 552, 551, 553, 73, 552, 551, 553, 73, 552, 551, 553, 73, 552, 551, 553, 73, 552, 551, 553, 73, 552, 551, 467, 186, 863, 73, 862, 861, 467, 182, 467, 186, 137, 139, 141, 143, 145, 147, 148, 633, 96, 632, 631, 156, 458, 154, 467, 186, 186, 467, 186] (by decide +kernel) (by decide +kernel)
theorem zc_61 : zt_61.all (zRowOk 61) = true := by decide +kernel
theorem zw_61 : ∀ w ∈ zt_61.flatMap (zNds 61), zWd w := zPls_ok2 [467, 186, 701, 73, 700, 699, 553, 73, 552, 551, 553, 73, 552, 551, 467, 182, 150, 467, 182, 152, 467, 182, 156] (by decide +kernel) (by decide +kernel)
theorem zc_62 : zt_62.all (zRowOk 62) = true := by decide +kernel
theorem zw_62 : ∀ w ∈ zt_62.flatMap (zNds 62), zWd w := zPls_ok2 [701, 73, 700, 699, 701, 73, 700, 699, 701, 73, 700, 699, 701, 73, 700, 699, 553, 73, 552, 551, 553, 73, 552, 551, 458, 553, 73, 552, 551, 461, 863, 73, 862, 861, 466, 461, 390, 393, 398, 404, 524, 73, 523, 1, 521, 409, 414, 458, 415, 461, 461, 461] (by decide +kernel) (by decide +kernel)
theorem zc_63 : zt_63.all (zRowOk 63) = true := by decide +kernel
theorem zw_63 : ∀ w ∈ zt_63.flatMap (zNds 63), zWd w := zPls_ok2 [553, 73, 552, 551, 470, 366, 863, 73, 862, 861, 470, 365, 470, 366, 470, 366, 366, 470, 366] (by decide +kernel) (by decide +kernel)
theorem zc_64 : zt_64.all (zRowOk 64) = true := by decide +kernel
theorem zw_64 : ∀ w ∈ zt_64.flatMap (zNds 64), zWd w := zPls_ok2 [468, 306, 863, 73, 862, 861, 468, 306, 911, 73, 910, 23, 908, 468, 306] (by decide +kernel) (by decide +kernel)
theorem zc_65 : zt_65.all (zRowOk 65) = true := by decide +kernel
theorem zw_65 : ∀ w ∈ zt_65.flatMap (zNds 65), zWd w := zPls_ok2 [468, 306, 701, 73, 700, 699, 468, 302, 280, 863, 73, 862, 861, 911, 73, 910, 23, 908] (by decide +kernel) (by decide +kernel)
theorem zc_66 : zt_66.all (zRowOk 66) = true := by decide +kernel
theorem zw_66 : ∀ w ∈ zt_66.flatMap (zNds 66), zWd w := zPls_ok2 [701, 73, 700, 699, 701, 73, 700, 699, 553, 73, 552, 551, 469, 354, 338, 469, 990, 79, 988, 989, 987] (by decide +kernel) (by decide +kernel)
theorem zc_67 : zt_67.all (zRowOk 67) = true := by decide +kernel
theorem zw_67 : ∀ w ∈ zt_67.flatMap (zNds 67), zWd w := zPls_ok2 [701, 73, 700, 699, 701, 73, 700, 699, 553, 73, 552, 551, 469, 354, 335, 469, 354, 335] (by decide +kernel) (by decide +kernel)
theorem zc_68 : zt_68.all (zRowOk 68) = true := by decide +kernel
theorem zw_68 : ∀ w ∈ zt_68.flatMap (zNds 68), zWd w := zPls_ok2 [701, 73, 700, 699, 553, 73, 552, 551, 469, 354, 340, 469, 354, 340] (by decide +kernel) (by decide +kernel)
theorem zc_69 : zt_69.all (zRowOk 69) = true := by decide +kernel
theorem zw_69 : ∀ w ∈ zt_69.flatMap (zNds 69), zWd w := zPls_ok2 [701, 73, 700, 699, 468, 306, 701, 73, 700, 699, 468, 302, 280, 863, 73, 862, 861, 469, 354, 343, 863, 73, 862, 861, 469, 354, 343, 469, 1015, 79, 1013, 1014, 1012] (by decide +kernel) (by decide +kernel)
theorem zc_70 : zt_70.all (zRowOk 70) = true := by decide +kernel
theorem zw_70 : ∀ w ∈ zt_70.flatMap (zNds 70), zWd w := zPls_ok2 [468, 306, 701, 73, 700, 699, 468, 302, 280, 863, 73, 862, 861, 469, 1026, 79, 1024, 1025, 1023, 280, 458, 282, 280, 469, 1042, 79, 1040, 1041, 1039] (by decide +kernel) (by decide +kernel)
theorem zc_71 : zt_71.all (zRowOk 71) = true := by decide +kernel
theorem zw_71 : ∀ w ∈ zt_71.flatMap (zNds 71), zWd w := zPls_ok2 [468, 306, 701, 73, 700, 699, 468, 302, 280, 863, 73, 862, 861, 469, 1026, 79, 1024, 1025, 1023, 280, 458, 284] (by decide +kernel) (by decide +kernel)
theorem zc_72 : zt_72.all (zRowOk 72) = true := by decide +kernel
theorem zw_72 : ∀ w ∈ zt_72.flatMap (zNds 72), zWd w := zPls_ok2 [701, 73, 700, 699, 553, 73, 552, 551, 464, 464] (by decide +kernel) (by decide +kernel)
theorem zc_73 : zt_73.all (zRowOk 73) = true := by decide +kernel
theorem zw_73 : ∀ w ∈ zt_73.flatMap (zNds 73), zWd w := zPls_ok2 [461, 701, 73, 700, 699, 701, 73, 700, 699, 466, 417, 863, 73, 862, 861, 464, 1068, 73, 1067, 35, 1065, 419, 417, 419] (by decide +kernel) (by decide +kernel)
theorem zc_74 : zt_74.all (zRowOk 74) = true := by decide +kernel
theorem zw_74 : ∀ w ∈ zt_74.flatMap (zNds 74), zWd w := zPls_ok2 [461, 701, 73, 700, 699, 466, 417, 863, 73, 862, 861, 415, 648, 73, 647, 8, 645, 419, 419, 460, 460, 419] (by decide +kernel) (by decide +kernel)
theorem zc_75 : zt_75.all (zRowOk 75) = true := by decide +kernel
theorem zw_75 : ∀ w ∈ zt_75.flatMap (zNds 75), zWd w := zPls_ok2 [553, 73, 552, 551, 458, 863, 73, 862, 861, 458, 458, 458] (by decide +kernel) (by decide +kernel)
theorem zc_76 : zt_76.all (zRowOk 76) = true := by decide +kernel
theorem zw_76 : ∀ w ∈ zt_76.flatMap (zNds 76), zWd w := zPls_ok2 [459, 459, 459] (by decide +kernel) (by decide +kernel)
theorem zc_77 : zt_77.all (zRowOk 77) = true := by decide +kernel
theorem zw_77 : ∀ w ∈ zt_77.flatMap (zNds 77), zWd w := zPls_ok2 [701, 73, 700, 699, 701, 73, 700, 699, 463] (by decide +kernel) (by decide +kernel)
theorem zc_78 : zt_78.all (zRowOk 78) = true := by decide +kernel
theorem zw_78 : ∀ w ∈ zt_78.flatMap (zNds 78), zWd w := zPls_ok2 [467, 186, 701, 73, 700, 699, 553, 73, 552, 551, 467, 182, 137, 139, 141, 143, 145, 147, 148, 150, 152, 154, 156, 721, 73, 720, 13, 718] (by decide +kernel) (by decide +kernel)
theorem zc_79 : zt_79.all (zRowOk 79) = true := by decide +kernel
theorem zw_79 : ∀ w ∈ zt_79.flatMap (zNds 79), zWd w := zPls_ok2 [461, 701, 73, 700, 699, 553, 73, 552, 551, 466, 390, 393, 398, 404, 409, 414, 415, 467, 390, 415, 668, 74, 666, 667, 731, 467, 393, 415, 668, 74, 666, 667, 731, 467, 415, 664, 74, 662, 663, 690, 415, 648, 73, 647, 8, 645, 458, 648, 73, 647, 8, 645, 417, 419] (by decide +kernel) (by decide +kernel)
theorem zc_80 : zt_80.all (zRowOk 80) = true := by decide +kernel
theorem zw_80 : ∀ w ∈ zt_80.flatMap (zNds 80), zWd w := zPls_ok2 [461, 701, 73, 700, 699, 468, 306, 701, 73, 700, 699, 466, 468, 468, 415, 629, 76, 627, 628, 626, 415, 1113, 76, 1111, 1112, 1110] (by decide +kernel) (by decide +kernel)
theorem zc_81 : zt_81.all (zRowOk 81) = true := by decide +kernel
theorem zw_81 : ∀ w ∈ zt_81.flatMap (zNds 81), zWd w := zPls_ok2 [468, 306, 701, 73, 700, 699, 553, 73, 552, 551, 468, 302, 276, 218, 276, 221, 276, 224, 276, 227, 276, 229, 276, 231, 276, 236, 276, 240, 280, 282, 284, 458, 540, 77, 538, 539, 537, 286, 633, 96, 632, 631] (by decide +kernel) (by decide +kernel)
theorem zc_82 : zt_82.all (zRowOk 82) = true := by decide +kernel
theorem zw_82 : ∀ w ∈ zt_82.flatMap (zNds 82), zWd w := zPls_ok2 [701, 73, 700, 699, 468, 306, 701, 73, 700, 699, 469, 354, 468, 302, 276, 747, 80, 745, 746, 744] (by decide +kernel) (by decide +kernel)
theorem zc_83 : zt_83.all (zRowOk 83) = true := by decide +kernel
theorem zw_83 : ∀ w ∈ zt_83.flatMap (zNds 83), zWd w := zPls_ok2 [701, 73, 700, 699, 553, 73, 552, 551, 469, 354, 335, 340, 343, 338, 338, 338] (by decide +kernel) (by decide +kernel)
theorem zc_84 : zt_84.all (zRowOk 84) = true := by decide +kernel
theorem zw_84 : ∀ w ∈ zt_84.flatMap (zNds 84), zWd w := zPls_ok2 [701, 73, 700, 699, 701, 73, 700, 699, 553, 73, 552, 551, 471, 468, 458, 759, 82, 757, 758, 756, 471, 442] (by decide +kernel) (by decide +kernel)
theorem zc_85 : zt_85.all (zRowOk 85) = true := by decide +kernel
theorem zw_85 : ∀ w ∈ zt_85.flatMap (zNds 85), zWd w := zPls_ok2 [468, 306, 701, 73, 700, 699, 701, 73, 700, 699, 468, 458, 629, 76, 627, 628, 626, 471, 468, 302, 276, 218, 468, 763, 82, 761, 762, 1140, 471, 780, 82, 778, 779, 1141, 468, 471, 440, 458, 652, 76, 650, 651, 649, 468, 471, 440, 458, 652, 76, 650, 651, 649, 471, 789, 82, 787, 788, 1142] (by decide +kernel) (by decide +kernel)
theorem zc_86 : zt_86.all (zRowOk 86) = true := by decide +kernel
theorem zw_86 : ∀ w ∈ zt_86.flatMap (zNds 86), zWd w := zPls_ok2 [701, 73, 700, 699, 461, 466, 398, 458, 648, 73, 647, 8, 645, 797, 83, 795, 796, 794, 467, 415, 664, 74, 662, 663, 690, 797, 83, 795, 796, 794] (by decide +kernel) (by decide +kernel)
theorem zc_87 : zt_87.all (zRowOk 87) = true := by decide +kernel
theorem zw_87 : ∀ w ∈ zt_87.flatMap (zNds 87), zWd w := zPls_ok2 [701, 73, 700, 699, 701, 73, 700, 699, 553, 73, 552, 551, 553, 73, 552, 551, 553, 73, 552, 551, 805, 73, 804, 20, 802, 809, 73, 808, 21, 806, 809, 73, 808, 21, 806, 809, 73, 808, 21, 806, 813, 73, 812, 22, 810, 813, 73, 812, 22, 810, 813, 73, 812, 22, 810] (by decide +kernel) (by decide +kernel)
theorem zc_88 : zt_88.all (zRowOk 88) = true := by decide +kernel
theorem zw_88 : ∀ w ∈ zt_88.flatMap (zNds 88), zWd w := zPls_ok2 [461, 461, 466, 466, 512, 83, 510, 511, 509, 466, 419, 466, 419] (by decide +kernel) (by decide +kernel)
theorem zc_89 : zt_89.all (zRowOk 89) = true := by decide +kernel
theorem zw_89 : ∀ w ∈ zt_89.flatMap (zNds 89), zWd w := zPls_ok2 [553, 73, 552, 551, 458, 467, 186, 461, 468, 306, 468, 625, 76, 623, 624, 622, 468, 625, 76, 623, 624, 622, 468, 625, 76, 623, 624, 622, 468, 625, 76, 623, 624, 622, 468, 458, 629, 76, 627, 628, 626, 633, 96, 632, 631, 640, 73, 639, 6, 637, 460, 644, 73, 643, 7, 641, 470, 366, 459] (by decide +kernel) (by decide +kernel)
theorem zc_90 : zt_90.all (zRowOk 90) = true := by decide +kernel
theorem zw_90 : ∀ w ∈ zt_90.flatMap (zNds 90), zWd w := zPls_ok2 [468, 306, 701, 73, 700, 699, 1162, 1163, 107, 1166, 107, 1165, 1164, 468, 302, 276, 1196, 78, 1194, 1195, 1193, 1328, 107, 1326, 1327, 1325] (by decide +kernel) (by decide +kernel)
theorem zc_91 : zt_91.all (zRowOk 91) = true := by decide +kernel
theorem zw_91 : ∀ w ∈ zt_91.flatMap (zNds 91), zWd w := zPls_ok2 [468, 306, 701, 73, 700, 699, 701, 73, 700, 699, 469, 468, 302, 1030, 79, 1028, 1029, 1437] (by decide +kernel) (by decide +kernel)
theorem zc_92 : zt_92.all (zRowOk 92) = true := by decide +kernel
theorem zw_92 : ∀ w ∈ zt_92.flatMap (zNds 92), zWd w := zPls_ok2 [461, 701, 73, 700, 699, 701, 73, 700, 699, 464, 466, 1068, 73, 1067, 35, 1065] (by decide +kernel) (by decide +kernel)
theorem zc_93 : zt_93.all (zRowOk 93) = true := by decide +kernel
theorem zw_93 : ∀ w ∈ zt_93.flatMap (zNds 93), zWd w := zPls_ok2 [461, 701, 73, 700, 699, 468, 306, 701, 73, 700, 699, 466, 468, 468, 415, 629, 76, 627, 628, 626, 415, 652, 76, 650, 651, 649] (by decide +kernel) (by decide +kernel)
theorem zc_94 : zt_94.all (zRowOk 94) = true := by decide +kernel
theorem zw_94 : ∀ w ∈ zt_94.flatMap (zNds 94), zWd w := zPls_ok2 [520, 73, 519, 0, 517, 528, 73, 527, 2, 525, 532, 73, 531, 3, 529, 536, 73, 535, 4, 533] (by decide +kernel) (by decide +kernel)

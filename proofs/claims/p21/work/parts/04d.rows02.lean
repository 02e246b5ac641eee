/-! ===== the check of the rows, group 2 ===== -/
theorem zc_41 : zt_41.all (zRowOk 41) = true := by decide +kernel
theorem zw_41 : ∀ w ∈ zt_41.flatMap (zNds 41), zWd w := zPls_ok [444, 767, 82, 766, 17, 764, 304, 301, 273, 214, 278, 273, 771, 82, 770, 18, 768, 439, 388, 439, 391, 439, 400, 439, 395, 439, 406, 445, 439, 443, 412] (by decide +kernel) (by decide +kernel)
theorem zc_42 : zt_42.all (zRowOk 42) = true := by decide +kernel
theorem zw_42 : ∀ w ∈ zt_42.flatMap (zNds 42), zWd w := zPls_ok [242, 775, 78, 773, 774, 772, 767, 82, 766, 17, 764] (by decide +kernel) (by decide +kernel)
theorem zc_43 : zt_43.all (zRowOk 43) = true := by decide +kernel
theorem zw_43 : ∀ w ∈ zt_43.flatMap (zNds 43), zWd w := zPls_ok [444, 444, 443, 444, 443, 444, 443, 443, 443, 444, 444] (by decide +kernel) (by decide +kernel)
theorem zc_44 : zt_44.all (zRowOk 44) = true := by decide +kernel
theorem zw_44 : ∀ w ∈ zt_44.flatMap (zNds 44), zWd w := zPls_ok [444] (by decide +kernel) (by decide +kernel)
theorem zc_45 : zt_45.all (zRowOk 45) = true := by decide +kernel
theorem zw_45 : ∀ w ∈ zt_45.flatMap (zNds 45), zWd w := zPls_ok [445, 445, 445, 444, 445, 439, 406, 406, 439, 406, 439, 406, 439, 395, 395, 439, 443, 445, 412] (by decide +kernel) (by decide +kernel)
theorem zc_46 : zt_46.all (zRowOk 46) = true := by decide +kernel
theorem zw_46 : ∀ w ∈ zt_46.flatMap (zNds 46), zWd w := zPls_ok [763, 82, 761, 762, 760, 441, 441, 441, 441, 629, 76, 627, 628, 776, 780, 82, 778, 779, 777, 439, 652, 76, 650, 651, 781, 785, 82, 784, 19, 782, 789, 82, 787, 788, 786] (by decide +kernel) (by decide +kernel)
theorem zc_47 : zt_47.all (zRowOk 47) = true := by decide +kernel
theorem zw_47 : ∀ w ∈ zt_47.flatMap (zNds 47), zWd w := zPls_ok [441, 441, 441, 441, 441, 441, 441, 441, 441, 441, 441] (by decide +kernel) (by decide +kernel)
theorem zc_48 : zt_48.all (zRowOk 48) = true := by decide +kernel
theorem zw_48 : ∀ w ∈ zt_48.flatMap (zNds 48), zWd w := zPls_ok [325, 326, 327, 353, 353, 326, 328, 80, 331, 80, 330, 329] (by decide +kernel) (by decide +kernel)
theorem zc_49 : zt_49.all (zRowOk 49) = true := by decide +kernel
theorem zw_49 : ∀ w ∈ zt_49.flatMap (zNds 49), zWd w := zPls_ok [353, 337] (by decide +kernel) (by decide +kernel)
theorem zc_50 : zt_50.all (zRowOk 50) = true := by decide +kernel
theorem zw_50 : ∀ w ∈ zt_50.flatMap (zNds 50), zWd w := zPls_ok [353, 342] (by decide +kernel) (by decide +kernel)
theorem zc_51 : zt_51.all (zRowOk 51) = true := by decide +kernel
theorem zw_51 : ∀ w ∈ zt_51.flatMap (zNds 51), zWd w := zPls_ok [353, 337, 353, 1034, 80, 1032, 1033, 1031] (by decide +kernel) (by decide +kernel)
theorem zc_52 : zt_52.all (zRowOk 52) = true := by decide +kernel
theorem zw_52 : ∀ w ∈ zt_52.flatMap (zNds 52), zWd w := zPls_ok [1030, 79, 1028, 1029, 1027] (by decide +kernel) (by decide +kernel)
theorem zc_53 : zt_53.all (zRowOk 53) = true := by decide +kernel
theorem zw_53 : ∀ w ∈ zt_53.flatMap (zNds 53), zWd w := zPls_ok [275, 217, 353, 342, 270, 342, 334, 334, 681, 99, 680, 1043] (by decide +kernel) (by decide +kernel)
theorem zc_54 : zt_54.all (zRowOk 54) = true := by decide +kernel
theorem zw_54 : ∀ w ∈ zt_54.flatMap (zNds 54), zWd w := zPls_ok [135, 149, 151] (by decide +kernel) (by decide +kernel)
theorem zc_55 : zt_55.all (zRowOk 55) = true := by decide +kernel
theorem zw_55 : ∀ w ∈ zt_55.flatMap (zNds 55), zWd w := zPls_ok [399, 138, 140, 394, 405, 142, 142, 405, 144, 411, 149, 411, 151, 153] (by decide +kernel) (by decide +kernel)
theorem zc_56 : zt_56.all (zRowOk 56) = true := by decide +kernel
theorem zw_56 : ∀ w ∈ zt_56.flatMap (zNds 56), zWd w := zPls_ok [116, 180, 462, 119, 120, 180, 463, 180, 464, 180, 465, 121, 122, 466, 123, 124, 74, 127, 74, 126, 125, 467, 194, 195, 76, 467, 198, 76, 197, 196, 468, 320, 321, 79, 324, 79, 323, 322, 469, 358, 359, 81, 362, 81, 361, 360, 470, 376, 377, 82, 380, 82, 379, 378, 471, 462, 463, 466, 121, 383, 83, 386, 83, 385, 457] (by decide +kernel) (by decide +kernel)
theorem zc_57 : zt_57.all (zRowOk 57) = true := by decide +kernel
theorem zw_57 : ∀ w ∈ zt_57.flatMap (zNds 57), zWd w := zPls_ok [701, 73, 700, 699, 553, 73, 552, 551, 462, 462] (by decide +kernel) (by decide +kernel)
theorem zc_58 : zt_58.all (zRowOk 58) = true := by decide +kernel
theorem zw_58 : ∀ w ∈ zt_58.flatMap (zNds 58), zWd w := zPls_ok [701, 73, 700, 699, 553, 73, 552, 551, 553, 73, 552, 551, 463, 463, 463, 463, 463] (by decide +kernel) (by decide +kernel)

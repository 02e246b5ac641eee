/-! ===== the check of the rows, group 5 ===== -/
theorem zc_95_0 : zt_95_0.all (zRowOk 95) = true := by decide +kernel
theorem zw_95_0 : ∀ w ∈ zt_95_0.flatMap (zNds 95), zWd w := zPls_ok [545, 546, 550, 73, 548, 549, 547, 546, 462, 546, 463, 694, 73, 693, 12, 691, 726, 73, 725, 14, 723, 735, 73, 734, 15, 732, 546, 751, 73, 749, 750, 748, 546, 464, 755, 73, 754, 16, 752] (by decide +kernel) (by decide +kernel)
theorem zc_95_1 : zt_95_1.all (zRowOk 95) = true := by decide +kernel
theorem zw_95_1 : ∀ w ∈ zt_95_1.flatMap (zNds 95), zWd w := zPls_ok [546, 793, 73, 791, 792, 790, 546, 801, 73, 799, 800, 798, 546, 814, 508, 73, 506, 507, 815, 546, 516, 73, 514, 515, 816] (by decide +kernel) (by decide +kernel)
theorem zc_95 : zt_95.all (zRowOk 95) = true := zAll_app zc_95_0 (zc_95_1)
theorem zw_95 : ∀ w ∈ zt_95.flatMap (zNds 95), zWd w := zFl_app zw_95_0 (zw_95_1)
theorem zc_96 : zt_96.all (zRowOk 96) = true := by decide +kernel
theorem zw_96 : ∀ w ∈ zt_96.flatMap (zNds 96), zWd w := zPls_ok [] (by decide +kernel) (by decide +kernel)
theorem zc_97 : zt_97.all (zRowOk 97) = true := by decide +kernel
theorem zw_97 : ∀ w ∈ zt_97.flatMap (zNds 97), zWd w := zPls_ok [] (by decide +kernel) (by decide +kernel)
theorem zc_98 : zt_98.all (zRowOk 98) = true := by decide +kernel
theorem zw_98 : ∀ w ∈ zt_98.flatMap (zNds 98), zWd w := zPls_ok [] (by decide +kernel) (by decide +kernel)
theorem zc_99 : zt_99.all (zRowOk 99) = true := by decide +kernel
theorem zw_99 : ∀ w ∈ zt_99.flatMap (zNds 99), zWd w := zPls_ok [463] (by decide +kernel) (by decide +kernel)
theorem zc_100 : zt_100.all (zRowOk 100) = true := by decide +kernel
theorem zw_100 : ∀ w ∈ zt_100.flatMap (zNds 100), zWd w := zPls_ok [912, 208, 78, 211, 78, 210, 913, 470, 917, 81, 915, 916, 914, 470, 366, 468, 967, 76, 965, 966, 964] (by decide +kernel) (by decide +kernel)
theorem zc_101 : zt_101.all (zRowOk 101) = true := by decide +kernel
theorem zw_101 : ∀ w ∈ zt_101.flatMap (zNds 101), zWd w := zPls_ok [468, 468, 629, 76, 627, 628, 626, 652, 76, 650, 651, 649] (by decide +kernel) (by decide +kernel)
theorem zc_102 : zt_102.all (zRowOk 102) = true := by decide +kernel
theorem zw_102 : ∀ w ∈ zt_102.flatMap (zNds 102), zWd w := zPls_ok [415, 648, 73, 647, 8, 645, 1071, 73, 1070, 1069, 467, 415, 664, 74, 662, 663, 690] (by decide +kernel) (by decide +kernel)
theorem zc_103 : zt_103.all (zRowOk 103) = true := by decide +kernel
theorem zw_103 : ∀ w ∈ zt_103.flatMap (zNds 103), zWd w := zPls_ok [678, 99, 677, 1072, 681, 99, 680, 1073] (by decide +kernel) (by decide +kernel)
theorem zc_104 : zt_104.all (zRowOk 104) = true := by decide +kernel
theorem zw_104 : ∀ w ∈ zt_104.flatMap (zNds 104), zWd w := zPls_ok [461, 466, 390, 137, 466, 466, 415, 672, 75, 670, 671, 722] (by decide +kernel) (by decide +kernel)
theorem zc_105 : zt_105.all (zRowOk 105) = true := by decide +kernel
theorem zw_105 : ∀ w ∈ zt_105.flatMap (zNds 105), zWd w := zPls_ok [461, 466, 417] (by decide +kernel) (by decide +kernel)
theorem zc_106 : zt_106.all (zRowOk 106) = true := by decide +kernel
theorem zw_106 : ∀ w ∈ zt_106.flatMap (zNds 106), zWd w := zPls_ok [461, 466, 415, 648, 73, 647, 8, 645, 467, 415, 664, 74, 662, 663, 690] (by decide +kernel) (by decide +kernel)
theorem zc_107 : zt_107.all (zRowOk 107) = true := by decide +kernel
theorem zw_107 : ∀ w ∈ zt_107.flatMap (zNds 107), zWd w := zPls_ok [471, 440, 404, 398, 409, 414, 465, 467, 458, 668, 74, 666, 667, 731] (by decide +kernel) (by decide +kernel)
theorem zc_108 : zt_108.all (zRowOk 108) = true := by decide +kernel
theorem zw_108 : ∀ w ∈ zt_108.flatMap (zNds 108), zWd w := zPls_ok [465, 813, 73, 812, 22, 810] (by decide +kernel) (by decide +kernel)
theorem zc_109 : zt_109.all (zRowOk 109) = true := by decide +kernel
theorem zw_109 : ∀ w ∈ zt_109.flatMap (zNds 109), zWd w := zPls_ok [465, 462] (by decide +kernel) (by decide +kernel)
theorem zc_110 : zt_110.all (zRowOk 110) = true := by decide +kernel
theorem zw_110 : ∀ w ∈ zt_110.flatMap (zNds 110), zWd w := zPls_ok [524, 73, 523, 1, 521] (by decide +kernel) (by decide +kernel)
theorem zc_111 : zt_111.all (zRowOk 111) = true := by decide +kernel
theorem zw_111 : ∀ w ∈ zt_111.flatMap (zNds 111), zWd w := zPls_ok [461, 466, 417, 419, 419] (by decide +kernel) (by decide +kernel)
theorem zc_112 : zt_112.all (zRowOk 112) = true := by decide +kernel
theorem zw_112 : ∀ w ∈ zt_112.flatMap (zNds 112), zWd w := zPls_ok [469, 354, 343, 468, 306, 468, 302, 280] (by decide +kernel) (by decide +kernel)
theorem zc_113 : zt_113.all (zRowOk 113) = true := by decide +kernel
theorem zw_113 : ∀ w ∈ zt_113.flatMap (zNds 113), zWd w := zPls_ok [468, 306, 468, 302, 284, 276, 240, 284, 280, 458, 540, 77, 538, 539, 537] (by decide +kernel) (by decide +kernel)
theorem zc_114 : zt_114.all (zRowOk 114) = true := by decide +kernel
theorem zw_114 : ∀ w ∈ zt_114.flatMap (zNds 114), zWd w := zPls_ok [467, 186, 546, 698, 73, 696, 697, 695, 546, 698, 73, 696, 697, 695] (by decide +kernel) (by decide +kernel)

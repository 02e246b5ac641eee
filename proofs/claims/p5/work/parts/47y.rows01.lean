/-! ===== the check of the rows, group 1 ===== -/
theorem zc_95_0 : zt_95_0.all (zRowOk 95) = true := by decide +kernel
theorem zw_95_0 : ∀ w ∈ zt_95_0.flatMap (zNds 95), zWd w := zPls_ok2 [545, 546, 550, 73, 548, 549, 547, 546, 462, 546, 463, 694, 73, 693, 12, 691, 726, 73, 725, 14, 723, 735, 73, 734, 15, 732, 546, 751, 73, 749, 750, 748, 546, 464, 755, 73, 754, 16, 752] (by decide +kernel) (by decide +kernel)
theorem zc_95_1 : zt_95_1.all (zRowOk 95) = true := by decide +kernel
theorem zw_95_1 : ∀ w ∈ zt_95_1.flatMap (zNds 95), zWd w := zPls_ok2 [546, 793, 73, 791, 792, 790, 546, 801, 73, 799, 800, 798, 546, 814, 508, 73, 506, 507, 815, 546, 516, 73, 514, 515, 816] (by decide +kernel) (by decide +kernel)
theorem zc_95 : zt_95.all (zRowOk 95) = true := zAll_app zc_95_0 (zc_95_1)
theorem zw_95 : ∀ w ∈ zt_95.flatMap (zNds 95), zWd w := zFl_app zw_95_0 (zw_95_1)
theorem zc_96 : zt_96.all (zRowOk 96) = true := by decide +kernel
theorem zw_96 : ∀ w ∈ zt_96.flatMap (zNds 96), zWd w := zPls_ok2 [] (by decide +kernel) (by decide +kernel)
theorem zc_97 : zt_97.all (zRowOk 97) = true := by decide +kernel
theorem zw_97 : ∀ w ∈ zt_97.flatMap (zNds 97), zWd w := zPls_ok2 [] (by decide +kernel) (by decide +kernel)
theorem zc_98 : zt_98.all (zRowOk 98) = true := by decide +kernel
theorem zw_98 : ∀ w ∈ zt_98.flatMap (zNds 98), zWd w := zPls_ok2 [] (by decide +kernel) (by decide +kernel)
theorem zc_99 : zt_99.all (zRowOk 99) = true := by decide +kernel
theorem zw_99 : ∀ w ∈ zt_99.flatMap (zNds 99), zWd w := zPls_ok2 [463] (by decide +kernel) (by decide +kernel)
theorem zc_100 : zt_100.all (zRowOk 100) = true := by decide +kernel
theorem zw_100 : ∀ w ∈ zt_100.flatMap (zNds 100), zWd w := zPls_ok2 [912, 208, 78, 211, 78, 210, 913, 470, 917, 81, 915, 916, 914, 470, 366, 468, 967, 76, 965, 966, 964] (by decide +kernel) (by decide +kernel)
theorem zc_101 : zt_101.all (zRowOk 101) = true := by decide +kernel
theorem zw_101 : ∀ w ∈ zt_101.flatMap (zNds 101), zWd w := zPls_ok2 [468, 468, 629, 76, 627, 628, 626, 652, 76, 650, 651, 649] (by decide +kernel) (by decide +kernel)

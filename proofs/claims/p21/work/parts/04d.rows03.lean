/-! ===== the check of the rows, group 3 ===== -/
theorem zc_59 : zt_59.all (zRowOk 59) = true := by decide +kernel
theorem zw_59 : ∀ w ∈ zt_59.flatMap (zNds 59), zWd w := zPls_ok [701, 73, 700, 699, 553, 73, 552, 551, 467, 184, 467, 184] (by decide +kernel) (by decide +kernel)
theorem zc_60 : zt_60.all (zRowOk 60) = true := by decide +kernel
theorem zw_60 : ∀ w ∈ zt_60.flatMap (zNds 60), zWd w := zPls_ok [701, 73, 700, 699, 701, 73, 700, 699, 553, 73, 552, 551, 553, 73, 552, 551, 553, 73, 552, 551, 553, 73, 552, 551, 553, 73, 552, 551, 553, 73, 552, 551, 467, 186, 863, 73, 862, 861, 467, 182, 467, 186, 137, 139, 141, 143, 145, 147, 148, 633, 96, 632, 631, 156, 458, 154, 467, 186, 186, 467, 186] (by decide +kernel) (by decide +kernel)
theorem zc_61 : zt_61.all (zRowOk 61) = true := by decide +kernel
theorem zw_61 : ∀ w ∈ zt_61.flatMap (zNds 61), zWd w := zPls_ok [467, 186, 701, 73, 700, 699, 553, 73, 552, 551, 553, 73, 552, 551, 467, 182, 150, 467, 182, 152, 467, 182, 156] (by decide +kernel) (by decide +kernel)
theorem zc_62 : zt_62.all (zRowOk 62) = true := by decide +kernel
theorem zw_62 : ∀ w ∈ zt_62.flatMap (zNds 62), zWd w := zPls_ok [701, 73, 700, 699, 701, 73, 700, 699, 701, 73, 700, 699, 701, 73, 700, 699, 553, 73, 552, 551, 553, 73, 552, 551, 458, 553, 73, 552, 551, 461, 863, 73, 862, 861, 466, 461, 390, 393, 398, 404, 524, 73, 523, 1, 521, 409, 414, 458, 415, 461, 461, 461] (by decide +kernel) (by decide +kernel)
theorem zc_63 : zt_63.all (zRowOk 63) = true := by decide +kernel
theorem zw_63 : ∀ w ∈ zt_63.flatMap (zNds 63), zWd w := zPls_ok [553, 73, 552, 551, 470, 366, 863, 73, 862, 861, 470, 365, 470, 366, 470, 366, 366, 470, 366] (by decide +kernel) (by decide +kernel)
theorem zc_64 : zt_64.all (zRowOk 64) = true := by decide +kernel
theorem zw_64 : ∀ w ∈ zt_64.flatMap (zNds 64), zWd w := zPls_ok [468, 306, 863, 73, 862, 861, 468, 306, 911, 73, 910, 23, 908, 468, 306] (by decide +kernel) (by decide +kernel)
theorem zc_65 : zt_65.all (zRowOk 65) = true := by decide +kernel
theorem zw_65 : ∀ w ∈ zt_65.flatMap (zNds 65), zWd w := zPls_ok [468, 306, 701, 73, 700, 699, 468, 302, 280, 863, 73, 862, 861, 911, 73, 910, 23, 908] (by decide +kernel) (by decide +kernel)
theorem zc_66 : zt_66.all (zRowOk 66) = true := by decide +kernel
theorem zw_66 : ∀ w ∈ zt_66.flatMap (zNds 66), zWd w := zPls_ok [701, 73, 700, 699, 701, 73, 700, 699, 553, 73, 552, 551, 469, 354, 338, 469, 990, 79, 988, 989, 987] (by decide +kernel) (by decide +kernel)
theorem zc_67 : zt_67.all (zRowOk 67) = true := by decide +kernel
theorem zw_67 : ∀ w ∈ zt_67.flatMap (zNds 67), zWd w := zPls_ok [701, 73, 700, 699, 701, 73, 700, 699, 553, 73, 552, 551, 469, 354, 335, 469, 354, 335] (by decide +kernel) (by decide +kernel)
theorem zc_68 : zt_68.all (zRowOk 68) = true := by decide +kernel
theorem zw_68 : ∀ w ∈ zt_68.flatMap (zNds 68), zWd w := zPls_ok [701, 73, 700, 699, 553, 73, 552, 551, 469, 354, 340, 469, 354, 340] (by decide +kernel) (by decide +kernel)
theorem zc_69 : zt_69.all (zRowOk 69) = true := by decide +kernel
theorem zw_69 : ∀ w ∈ zt_69.flatMap (zNds 69), zWd w := zPls_ok [701, 73, 700, 699, 468, 306, 701, 73, 700, 699, 468, 302, 280, 863, 73, 862, 861, 469, 354, 343, 863, 73, 862, 861, 469, 354, 343, 469, 1015, 79, 1013, 1014, 1012] (by decide +kernel) (by decide +kernel)
theorem zc_70 : zt_70.all (zRowOk 70) = true := by decide +kernel
theorem zw_70 : ∀ w ∈ zt_70.flatMap (zNds 70), zWd w := zPls_ok [468, 306, 701, 73, 700, 699, 468, 302, 280, 863, 73, 862, 861, 469, 1026, 79, 1024, 1025, 1023, 280, 458, 282, 280, 469, 1042, 79, 1040, 1041, 1039] (by decide +kernel) (by decide +kernel)
theorem zc_71 : zt_71.all (zRowOk 71) = true := by decide +kernel
theorem zw_71 : ∀ w ∈ zt_71.flatMap (zNds 71), zWd w := zPls_ok [468, 306, 701, 73, 700, 699, 468, 302, 280, 863, 73, 862, 861, 469, 1026, 79, 1024, 1025, 1023, 280, 458, 284] (by decide +kernel) (by decide +kernel)
theorem zc_72 : zt_72.all (zRowOk 72) = true := by decide +kernel
theorem zw_72 : ∀ w ∈ zt_72.flatMap (zNds 72), zWd w := zPls_ok [701, 73, 700, 699, 553, 73, 552, 551, 464, 464] (by decide +kernel) (by decide +kernel)
theorem zc_73 : zt_73.all (zRowOk 73) = true := by decide +kernel
theorem zw_73 : ∀ w ∈ zt_73.flatMap (zNds 73), zWd w := zPls_ok [461, 701, 73, 700, 699, 701, 73, 700, 699, 466, 417, 863, 73, 862, 861, 464, 1068, 73, 1067, 35, 1065, 419, 417, 419] (by decide +kernel) (by decide +kernel)
theorem zc_74 : zt_74.all (zRowOk 74) = true := by decide +kernel
theorem zw_74 : ∀ w ∈ zt_74.flatMap (zNds 74), zWd w := zPls_ok [461, 701, 73, 700, 699, 466, 417, 863, 73, 862, 861, 415, 648, 73, 647, 8, 645, 419, 419, 460, 460, 419] (by decide +kernel) (by decide +kernel)
theorem zc_75 : zt_75.all (zRowOk 75) = true := by decide +kernel
theorem zw_75 : ∀ w ∈ zt_75.flatMap (zNds 75), zWd w := zPls_ok [553, 73, 552, 551, 458, 863, 73, 862, 861, 458, 458, 458] (by decide +kernel) (by decide +kernel)
theorem zc_76 : zt_76.all (zRowOk 76) = true := by decide +kernel
theorem zw_76 : ∀ w ∈ zt_76.flatMap (zNds 76), zWd w := zPls_ok [459, 459, 459] (by decide +kernel) (by decide +kernel)
theorem zc_77 : zt_77.all (zRowOk 77) = true := by decide +kernel
theorem zw_77 : ∀ w ∈ zt_77.flatMap (zNds 77), zWd w := zPls_ok [701, 73, 700, 699, 701, 73, 700, 699, 463] (by decide +kernel) (by decide +kernel)
theorem zc_78 : zt_78.all (zRowOk 78) = true := by decide +kernel
theorem zw_78 : ∀ w ∈ zt_78.flatMap (zNds 78), zWd w := zPls_ok [467, 186, 701, 73, 700, 699, 553, 73, 552, 551, 467, 182, 137, 139, 141, 143, 145, 147, 148, 150, 152, 154, 156, 721, 73, 720, 13, 718] (by decide +kernel) (by decide +kernel)

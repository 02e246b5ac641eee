/-! ===== the check of the rows, group 1 ===== -/
theorem zc_46 : zt_46.all (zRowOk 46) = true := by decide +kernel
theorem zw_46 : ∀ w ∈ zt_46.flatMap (zNds 46), zWd w := zPls_ok [763, 82, 761, 762, 760, 441, 441, 441, 441, 629, 76, 627, 628, 776, 780, 82, 778, 779, 777, 439, 652, 76, 650, 651, 781, 785, 82, 784, 19, 782, 789, 82, 787, 788, 786] (by decide +kernel) (by decide +kernel)
theorem zc_47 : zt_47.all (zRowOk 47) = true := by decide +kernel
theorem zw_47 : ∀ w ∈ zt_47.flatMap (zNds 47), zWd w := zPls_ok [441, 441, 441, 441, 441, 441, 441, 441, 441, 441, 441] (by decide +kernel) (by decide +kernel)
theorem zc_48 : zt_48.all (zRowOk 48) = true := by decide +kernel
theorem zw_48 : ∀ w ∈ zt_48.flatMap (zNds 48), zWd w := zPls_ok [325, 326, 327, 353, 353, 326, 328, 80, 331, 80, 330, 329] (by decide +kernel) (by decide +kernel)
theorem zc_49 : zt_49.all (zRowOk 49) = true := by decide +kernel
theorem zw_49 : ∀ w ∈ zt_49.flatMap (zNds 49), zWd w := zPls_ok [353, 337] (by decide +kernel) (by decide +kernel)
theorem zc_50 : zt_50.all (zRowOk 50) = true := by decide +kernel
theorem zw_50 : ∀ w ∈ zt_50.flatMap (zNds 50), zWd w := zPls_ok [353, 342] (by decide +kernel) (by decide +kernel)
theorem zc_51 : zt_51.all (zRowOk 51) = true := by decide +kernel
theorem zw_51 : ∀ w ∈ zt_51.flatMap (zNds 51), zWd w := zPls_ok [353, 337, 353, 1034, 80, 1032, 1033, 1031] (by decide +kernel) (by decide +kernel)
theorem zc_52 : zt_52.all (zRowOk 52) = true := by decide +kernel
theorem zw_52 : ∀ w ∈ zt_52.flatMap (zNds 52), zWd w := zPls_ok [1030, 79, 1028, 1029, 1027] (by decide +kernel) (by decide +kernel)
theorem zc_53 : zt_53.all (zRowOk 53) = true := by decide +kernel
theorem zw_53 : ∀ w ∈ zt_53.flatMap (zNds 53), zWd w := zPls_ok [275, 217, 353, 342, 270, 342, 334, 334, 681, 99, 680, 1043] (by decide +kernel) (by decide +kernel)
theorem zc_54 : zt_54.all (zRowOk 54) = true := by decide +kernel
theorem zw_54 : ∀ w ∈ zt_54.flatMap (zNds 54), zWd w := zPls_ok [135, 149, 151] (by decide +kernel) (by decide +kernel)
theorem zc_55 : zt_55.all (zRowOk 55) = true := by decide +kernel
theorem zw_55 : ∀ w ∈ zt_55.flatMap (zNds 55), zWd w := zPls_ok [399, 138, 140, 394, 405, 142, 142, 405, 144, 411, 149, 411, 151, 153] (by decide +kernel) (by decide +kernel)
theorem zc_56 : zt_56.all (zRowOk 56) = true := by decide +kernel
theorem zw_56 : ∀ w ∈ zt_56.flatMap (zNds 56), zWd w := zPls_ok [116, 180, 462, 119, 120, 180, 463, 180, 464, 180, 465, 121, 122, 466, 123, 124, 74, 127, 74, 126, 125, 467, 194, 195, 76, 467, 198, 76, 197, 196, 468, 320, 321, 79, 324, 79, 323, 322, 469, 358, 359, 81, 362, 81, 361, 360, 470, 376, 377, 82, 380, 82, 379, 378, 471, 462, 463, 466, 121, 383, 83, 386, 83, 385, 457] (by decide +kernel) (by decide +kernel)
theorem zc_57 : zt_57.all (zRowOk 57) = true := by decide +kernel
theorem zw_57 : ∀ w ∈ zt_57.flatMap (zNds 57), zWd w := zPls_ok [701, 73, 700, 699, 553, 73, 552, 551, 462, 462] (by decide +kernel) (by decide +kernel)
theorem zc_58 : zt_58.all (zRowOk 58) = true := by decide +kernel
theorem zw_58 : ∀ w ∈ zt_58.flatMap (zNds 58), zWd w := zPls_ok [701, 73, 700, 699, 553, 73, 552, 551, 553, 73, 552, 551, 463, 463, 463, 463, 463] (by decide +kernel) (by decide +kernel)
theorem zc_59 : zt_59.all (zRowOk 59) = true := by decide +kernel
theorem zw_59 : ∀ w ∈ zt_59.flatMap (zNds 59), zWd w := zPls_ok [701, 73, 700, 699, 553, 73, 552, 551, 467, 184, 467, 184] (by decide +kernel) (by decide +kernel)
theorem zc_60 : zt_60.all (zRowOk 60) = true := by decide +kernel
theorem zw_60 : ∀ w ∈ zt_60.flatMap (zNds 60), zWd w := zPls_ok [701, 73, 700, 699, 701, 73, 700, 699, 553, 73, 552, 551, 553, 73, 552, 551, 553, 73, 552, 551, 553, 73, 552, 551, 553, 73, 552, 551, 553, 73, 552, 551, 467, 186, 863, 73, 862, 861, 467, 182, 467, 186, 137, 139, 141, 143, 145, 147, 148, 633, 96, 632, 631, 156, 458, 154, 467, 186, 186, 467, 186] (by decide +kernel) (by decide +kernel)
theorem zc_61 : zt_61.all (zRowOk 61) = true := by decide +kernel
theorem zw_61 : ∀ w ∈ zt_61.flatMap (zNds 61), zWd w := zPls_ok [467, 186, 701, 73, 700, 699, 553, 73, 552, 551, 553, 73, 552, 551, 467, 182, 150, 467, 182, 152, 467, 182, 156] (by decide +kernel) (by decide +kernel)
theorem zc_62 : zt_62.all (zRowOk 62) = true := by decide +kernel
theorem zw_62 : ∀ w ∈ zt_62.flatMap (zNds 62), zWd w := zPls_ok [701, 73, 700, 699, 701, 73, 700, 699, 701, 73, 700, 699, 701, 73, 700, 699, 553, 73, 552, 551, 553, 73, 552, 551, 458, 553, 73, 552, 551, 461, 863, 73, 862, 861, 466, 461, 390, 393, 398, 404, 524, 73, 523, 1, 521, 409, 414, 458, 415, 461, 461, 461] (by decide +kernel) (by decide +kernel)
theorem zc_63 : zt_63.all (zRowOk 63) = true := by decide +kernel
theorem zw_63 : ∀ w ∈ zt_63.flatMap (zNds 63), zWd w := zPls_ok [553, 73, 552, 551, 470, 366, 863, 73, 862, 861, 470, 365, 470, 366, 470, 366, 366, 470, 366] (by decide +kernel) (by decide +kernel)
theorem zc_64 : zt_64.all (zRowOk 64) = true := by decide +kernel
theorem zw_64 : ∀ w ∈ zt_64.flatMap (zNds 64), zWd w := zPls_ok [468, 306, 863, 73, 862, 861, 468, 306, 911, 73, 910, 23, 908, 468, 306] (by decide +kernel) (by decide +kernel)
theorem zc_65 : zt_65.all (zRowOk 65) = true := by decide +kernel
theorem zw_65 : ∀ w ∈ zt_65.flatMap (zNds 65), zWd w := zPls_ok [468, 306, 701, 73, 700, 699, 468, 302, 280, 863, 73, 862, 861, 911, 73, 910, 23, 908] (by decide +kernel) (by decide +kernel)
theorem zc_66 : zt_66.all (zRowOk 66) = true := by decide +kernel
theorem zw_66 : ∀ w ∈ zt_66.flatMap (zNds 66), zWd w := zPls_ok [701, 73, 700, 699, 701, 73, 700, 699, 553, 73, 552, 551, 469, 354, 338, 469, 990, 79, 988, 989, 987] (by decide +kernel) (by decide +kernel)
theorem zc_67 : zt_67.all (zRowOk 67) = true := by decide +kernel
theorem zw_67 : ∀ w ∈ zt_67.flatMap (zNds 67), zWd w := zPls_ok [701, 73, 700, 699, 701, 73, 700, 699, 553, 73, 552, 551, 469, 354, 335, 469, 354, 335] (by decide +kernel) (by decide +kernel)
theorem zc_68 : zt_68.all (zRowOk 68) = true := by decide +kernel
theorem zw_68 : ∀ w ∈ zt_68.flatMap (zNds 68), zWd w := zPls_ok [701, 73, 700, 699, 553, 73, 552, 551, 469, 354, 340, 469, 354, 340] (by decide +kernel) (by decide +kernel)
theorem zc_69 : zt_69.all (zRowOk 69) = true := by decide +kernel
theorem zw_69 : ∀ w ∈ zt_69.flatMap (zNds 69), zWd w := zPls_ok [701, 73, 700, 699, 468, 306, 701, 73, 700, 699, 468, 302, 280, 863, 73, 862, 861, 469, 354, 343, 863, 73, 862, 861, 469, 354, 343, 469, 1015, 79, 1013, 1014, 1012] (by decide +kernel) (by decide +kernel)
theorem zc_70 : zt_70.all (zRowOk 70) = true := by decide +kernel
theorem zw_70 : ∀ w ∈ zt_70.flatMap (zNds 70), zWd w := zPls_ok [468, 306, 701, 73, 700, 699, 468, 302, 280, 863, 73, 862, 861, 469, 1026, 79, 1024, 1025, 1023, 280, 458, 282, 280, 469, 1042, 79, 1040, 1041, 1039] (by decide +kernel) (by decide +kernel)
theorem zc_71 : zt_71.all (zRowOk 71) = true := by decide +kernel
theorem zw_71 : ∀ w ∈ zt_71.flatMap (zNds 71), zWd w := zPls_ok [468, 306, 701, 73, 700, 699, 468, 302, 280, 863, 73, 862, 861, 469, 1026, 79, 1024, 1025, 1023, 280, 458, 284] (by decide +kernel) (by decide +kernel)
theorem zc_72 : zt_72.all (zRowOk 72) = true := by decide +kernel
theorem zw_72 : ∀ w ∈ zt_72.flatMap (zNds 72), zWd w := zPls_ok [701, 73, 700, 699, 553, 73, 552, 551, 464, 464] (by decide +kernel) (by decide +kernel)
theorem zc_73 : zt_73.all (zRowOk 73) = true := by decide +kernel
theorem zw_73 : ∀ w ∈ zt_73.flatMap (zNds 73), zWd w := zPls_ok [461, 701, 73, 700, 699, 701, 73, 700, 699, 466, 417, 863, 73, 862, 861, 464, 1068, 73, 1067, 35, 1065, 419, 417, 419] (by decide +kernel) (by decide +kernel)
theorem zc_74 : zt_74.all (zRowOk 74) = true := by decide +kernel
theorem zw_74 : ∀ w ∈ zt_74.flatMap (zNds 74), zWd w := zPls_ok [461, 701, 73, 700, 699, 466, 417, 863, 73, 862, 861, 415, 648, 73, 647, 8, 645, 419, 419, 460, 460, 419] (by decide +kernel) (by decide +kernel)
theorem zc_75 : zt_75.all (zRowOk 75) = true := by decide +kernel
theorem zw_75 : ∀ w ∈ zt_75.flatMap (zNds 75), zWd w := zPls_ok [553, 73, 552, 551, 458, 863, 73, 862, 861, 458, 458, 458] (by decide +kernel) (by decide +kernel)
theorem zc_76 : zt_76.all (zRowOk 76) = true := by decide +kernel
theorem zw_76 : ∀ w ∈ zt_76.flatMap (zNds 76), zWd w := zPls_ok [459, 459, 459] (by decide +kernel) (by decide +kernel)
theorem zc_77 : zt_77.all (zRowOk 77) = true := by decide +kernel
theorem zw_77 : ∀ w ∈ zt_77.flatMap (zNds 77), zWd w := zPls_ok [701, 73, 700, 699, 701, 73, 700, 699, 463] (by decide +kernel) (by decide +kernel)
theorem zc_78 : zt_78.all (zRowOk 78) = true := by decide +kernel
theorem zw_78 : ∀ w ∈ zt_78.flatMap (zNds 78), zWd w := zPls_ok [467, 186, 701, 73, 700, 699, 553, 73, 552, 551, 467, 182, 137, 139, 141, 143, 145, 147, 148, 150, 152, 154, 156, 721, 73, 720, 13, 718] (by decide +kernel) (by decide +kernel)
theorem zc_79 : zt_79.all (zRowOk 79) = true := by decide +kernel
theorem zw_79 : ∀ w ∈ zt_79.flatMap (zNds 79), zWd w := zPls_ok [461, 701, 73, 700, 699, 553, 73, 552, 551, 466, 390, 393, 398, 404, 409, 414, 415, 467, 390, 415, 668, 74, 666, 667, 731, 467, 393, 415, 668, 74, 666, 667, 731, 467, 415, 664, 74, 662, 663, 690, 415, 648, 73, 647, 8, 645, 458, 648, 73, 647, 8, 645, 417, 419] (by decide +kernel) (by decide +kernel)
theorem zc_80 : zt_80.all (zRowOk 80) = true := by decide +kernel
theorem zw_80 : ∀ w ∈ zt_80.flatMap (zNds 80), zWd w := zPls_ok [461, 701, 73, 700, 699, 468, 306, 701, 73, 700, 699, 466, 468, 468, 415, 629, 76, 627, 628, 626, 415, 1113, 76, 1111, 1112, 1110] (by decide +kernel) (by decide +kernel)
theorem zc_81 : zt_81.all (zRowOk 81) = true := by decide +kernel
theorem zw_81 : ∀ w ∈ zt_81.flatMap (zNds 81), zWd w := zPls_ok [468, 306, 701, 73, 700, 699, 553, 73, 552, 551, 468, 302, 276, 218, 276, 221, 276, 224, 276, 227, 276, 229, 276, 231, 276, 236, 276, 240, 280, 282, 284, 458, 540, 77, 538, 539, 537, 286, 633, 96, 632, 631] (by decide +kernel) (by decide +kernel)
theorem zc_82 : zt_82.all (zRowOk 82) = true := by decide +kernel
theorem zw_82 : ∀ w ∈ zt_82.flatMap (zNds 82), zWd w := zPls_ok [701, 73, 700, 699, 468, 306, 701, 73, 700, 699, 469, 354, 468, 302, 276, 747, 80, 745, 746, 744] (by decide +kernel) (by decide +kernel)
theorem zc_83 : zt_83.all (zRowOk 83) = true := by decide +kernel
theorem zw_83 : ∀ w ∈ zt_83.flatMap (zNds 83), zWd w := zPls_ok [701, 73, 700, 699, 553, 73, 552, 551, 469, 354, 335, 340, 343, 338, 338, 338] (by decide +kernel) (by decide +kernel)
theorem zc_84 : zt_84.all (zRowOk 84) = true := by decide +kernel
theorem zw_84 : ∀ w ∈ zt_84.flatMap (zNds 84), zWd w := zPls_ok [701, 73, 700, 699, 701, 73, 700, 699, 553, 73, 552, 551, 471, 468, 458, 759, 82, 757, 758, 756, 471, 442] (by decide +kernel) (by decide +kernel)
theorem zc_85 : zt_85.all (zRowOk 85) = true := by decide +kernel
theorem zw_85 : ∀ w ∈ zt_85.flatMap (zNds 85), zWd w := zPls_ok [468, 306, 701, 73, 700, 699, 701, 73, 700, 699, 468, 458, 629, 76, 627, 628, 626, 471, 468, 302, 276, 218, 468, 763, 82, 761, 762, 1140, 471, 780, 82, 778, 779, 1141, 468, 471, 440, 458, 652, 76, 650, 651, 649, 468, 471, 440, 458, 652, 76, 650, 651, 649, 471, 789, 82, 787, 788, 1142] (by decide +kernel) (by decide +kernel)

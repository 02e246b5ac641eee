/-! ===== the check of the rows, group 4 ===== -/
theorem zc_79 : zt_79.all (zRowOk 79) = true := by decide +kernel
theorem zw_79 : ∀ w ∈ zt_79.flatMap (zNds 79), zWd w := zPls_ok [461, 701, 73, 700, 699, 553, 73, 552, 551, 466, 390, 393, 398, 404, 409, 414, 415, 467, 390, 415, 668, 74, 666, 667, 731, 467, 393, 415, 668, 74, 666, 667, 731, 467, 415, 664, 74, 662, 663, 690, 415, 648, 73, 647, 8, 645, 458, 648, 73, 647, 8, 645, 417, 419] (by decide +kernel) (by decide +kernel)
theorem zc_80 : zt_80.all (zRowOk 80) = true := by decide +kernel
theorem zw_80 : ∀ w ∈ zt_80.flatMap (zNds 80), zWd w := zPls_ok [461, 701, 73, 700, 699, 468, 306, 701, 73, 700, 699, 466, 468, 468, 415, 629, 76, 627, 628, 626, 415, 1113, 76, 1111, 1112, 1110] (by decide +kernel) (by decide +kernel)
theorem zc_81 : zt_81.all (zRowOk 81) = true := by decide +kernel
theorem zw_81 : ∀ w ∈ zt_81.flatMap (zNds 81), zWd w := zPls_ok [468, 306, 701, 73, 700, 699, 553, 73, 552, 551, 468, 302, 276, 218, 276, 221, 276, 224, 276, 227, 276, 229, 276, 231, 276, 236, 276, 240, 280, 282, 284, 458, 540, 77, 538, 539, 537, 286, 633, 96, 632, 631] (by decide +kernel) (by decide +kernel)
theorem zc_82 : zt_82.all (zRowOk 82) = true := by decide +kernel
theorem zw_82 : ∀ w ∈ zt_82.flatMap (zNds 82), zWd w := zPls_ok [701, 73, 700, 699, 468, 306, 701, 73, 700, 699, 469, 354, 468, 302, 276, 747, 80, 745, 746, 744] (by decide +kernel) (by decide +kernel)
theorem zc_83 : zt_83.all (zRowOk 83) = true := by decide +kernel
theorem zw_83 : ∀ w ∈ zt_83.flatMap (zNds 83), zWd w := zPls_ok [701, 73, 700, 699, 553, 73, 552, 551, 469, 354, 335, 340, 343, 338, 338, 338] (by decide +kernel) (by decide +kernel)
theorem zc_84 : zt_84.all (zRowOk 84) = true := by decide +kernel
theorem zw_84 : ∀ w ∈ zt_84.flatMap (zNds 84), zWd w := zPls_ok [701, 73, 700, 699, 701, 73, 700, 699, 553, 73, 552, 551, 471, 468, 458, 759, 82, 757, 758, 756, 471, 442] (by decide +kernel) (by decide +kernel)
theorem zc_85 : zt_85.all (zRowOk 85) = true := by decide +kernel
theorem zw_85 : ∀ w ∈ zt_85.flatMap (zNds 85), zWd w := zPls_ok [468, 306, 701, 73, 700, 699, 701, 73, 700, 699, 468, 458, 629, 76, 627, 628, 626, 471, 468, 302, 276, 218, 468, 763, 82, 761, 762, 1140, 471, 780, 82, 778, 779, 1141, 468, 471, 440, 458, 652, 76, 650, 651, 649, 468, 471, 440, 458, 652, 76, 650, 651, 649, 471, 789, 82, 787, 788, 1142] (by decide +kernel) (by decide +kernel)
theorem zc_86 : zt_86.all (zRowOk 86) = true := by decide +kernel
theorem zw_86 : ∀ w ∈ zt_86.flatMap (zNds 86), zWd w := zPls_ok [701, 73, 700, 699, 461, 466, 398, 458, 648, 73, 647, 8, 645, 797, 83, 795, 796, 794, 467, 415, 664, 74, 662, 663, 690, 797, 83, 795, 796, 794] (by decide +kernel) (by decide +kernel)
theorem zc_87 : zt_87.all (zRowOk 87) = true := by decide +kernel
theorem zw_87 : ∀ w ∈ zt_87.flatMap (zNds 87), zWd w := zPls_ok [701, 73, 700, 699, 701, 73, 700, 699, 553, 73, 552, 551, 553, 73, 552, 551, 553, 73, 552, 551, 805, 73, 804, 20, 802, 809, 73, 808, 21, 806, 809, 73, 808, 21, 806, 809, 73, 808, 21, 806, 813, 73, 812, 22, 810, 813, 73, 812, 22, 810, 813, 73, 812, 22, 810] (by decide +kernel) (by decide +kernel)
theorem zc_88 : zt_88.all (zRowOk 88) = true := by decide +kernel
theorem zw_88 : ∀ w ∈ zt_88.flatMap (zNds 88), zWd w := zPls_ok [461, 461, 466, 466, 512, 83, 510, 511, 509, 466, 419, 466, 419] (by decide +kernel) (by decide +kernel)
theorem zc_89 : zt_89.all (zRowOk 89) = true := by decide +kernel
theorem zw_89 : ∀ w ∈ zt_89.flatMap (zNds 89), zWd w := zPls_ok [553, 73, 552, 551, 458, 467, 186, 461, 468, 306, 468, 625, 76, 623, 624, 622, 468, 625, 76, 623, 624, 622, 468, 625, 76, 623, 624, 622, 468, 625, 76, 623, 624, 622, 468, 458, 629, 76, 627, 628, 626, 633, 96, 632, 631, 640, 73, 639, 6, 637, 460, 644, 73, 643, 7, 641, 470, 366, 459] (by decide +kernel) (by decide +kernel)
theorem zc_90 : zt_90.all (zRowOk 90) = true := by decide +kernel
theorem zw_90 : ∀ w ∈ zt_90.flatMap (zNds 90), zWd w := zPls_ok [468, 306, 701, 73, 700, 699, 1162, 1163, 107, 1166, 107, 1165, 1164, 468, 302, 276, 1196, 78, 1194, 1195, 1193, 1328, 107, 1326, 1327, 1325] (by decide +kernel) (by decide +kernel)
theorem zc_91 : zt_91.all (zRowOk 91) = true := by decide +kernel
theorem zw_91 : ∀ w ∈ zt_91.flatMap (zNds 91), zWd w := zPls_ok [468, 306, 701, 73, 700, 699, 701, 73, 700, 699, 469, 468, 302, 1030, 79, 1028, 1029, 1437] (by decide +kernel) (by decide +kernel)
theorem zc_92 : zt_92.all (zRowOk 92) = true := by decide +kernel
theorem zw_92 : ∀ w ∈ zt_92.flatMap (zNds 92), zWd w := zPls_ok [461, 701, 73, 700, 699, 701, 73, 700, 699, 464, 466, 1068, 73, 1067, 35, 1065] (by decide +kernel) (by decide +kernel)
theorem zc_93 : zt_93.all (zRowOk 93) = true := by decide +kernel
theorem zw_93 : ∀ w ∈ zt_93.flatMap (zNds 93), zWd w := zPls_ok [461, 701, 73, 700, 699, 468, 306, 701, 73, 700, 699, 466, 468, 468, 415, 629, 76, 627, 628, 626, 415, 652, 76, 650, 651, 649] (by decide +kernel) (by decide +kernel)
theorem zc_94 : zt_94.all (zRowOk 94) = true := by decide +kernel
theorem zw_94 : ∀ w ∈ zt_94.flatMap (zNds 94), zWd w := zPls_ok [520, 73, 519, 0, 517, 528, 73, 527, 2, 525, 532, 73, 531, 3, 529, 536, 73, 535, 4, 533] (by decide +kernel) (by decide +kernel)

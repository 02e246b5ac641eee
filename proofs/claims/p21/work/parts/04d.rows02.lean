/-! ===== the check of the rows, group 2 ===== -/
theorem zc_86 : zt_86.all (zRowOk 86) = true := by decide +kernel
theorem zw_86 : ∀ w ∈ zt_86.flatMap (zNds 86), zWd w := zPls_ok [701, 73, 700, 699, 461, 466, 398, 458, 648, 73, 647, 8, 645, 797, 83, 795, 796, 794, 467, 415, 664, 74, 662, 663, 690, 797, 83, 795, 796, 794] (by decide +kernel) (by decide +kernel)
theorem zc_87 : zt_87.all (zRowOk 87) = true := by decide +kernel
theorem zw_87 : ∀ w ∈ zt_87.flatMap (zNds 87), zWd w := zPls_ok [701, 73, 700, 699, 701, 73, 700, 699, 553, 73, 552, 551, 553, 73, 552, 551, 553, 73, 552, 551, 805, 73, 804, 20, 802, 809, 73, 808, 21, 806, 809, 73, 808, 21, 806, 809, 73, 808, 21, 806, 813, 73, 812, 22, 810, 813, 73, 812, 22, 810, 813, 73, 812, 22, 810] (by decide +kernel) (by decide +kernel)
theorem zc_88 : zt_88.all (zRowOk 88) = true := by decide +kernel
theorem zw_88 : ∀ w ∈ zt_88.flatMap (zNds 88), zWd w := zPls_ok [461, 461, 466, 466, 512, 83, 510, 511, 509, 466, 419, 466, 419] (by decide +kernel) (by decide +kernel)
theorem zc_89 : zt_89.all (zRowOk 89) = true := by decide +kernel
theorem zw_89 : ∀ w ∈ zt_89.flatMap (zNds 89), zWd w := zPls_ok [553, 73, 552, 551, 458, 467, 186, 461, 468, 306, 468, 625, 76, 623, 624, 622, 468, 625, 76, 623, 624, 622, 468, 625, 76, 623, 624, 622, 468, 625, 76, 623, 624, 622, 468, 458, 629, 76, 627, 628, 626, 633, 96, 632, 631, 640, 73, 639, 6, 637, 460, 644, 73, 643, 7, 641, 470, 366, 459] (by decide +kernel) (by decide +kernel)
theorem zc_90 : zt_90.all (zRowOk 90) = true := by decide +kernel
theorem zw_90 : ∀ w ∈ zt_90.flatMap (zNds 90), zWd w := zPls_ok [468, 306, 701, 73, 700, 699, 1162, 1163, 107, 1166, 107, 1165, 1164, 468, 302, 276, 1196, 78, 1194, 1195, 1193, 1328, 107, 1326, 1327, 1325] (by decide +kernel) (by decide +kernel)
theorem zc_91 : zt_91.all (zRowOk 91) = true := by decide +kernel
theorem zw_91 : ∀ w ∈ zt_91.flatMap (zNds 91), zWd w := zPls_ok [468, 306, 701, 73, 700, 699, 701, 73, 700, 699, 469, 468, 302, 1030, 79, 1028, 1029, 1437] (by decide +kernel) (by decide +kernel)
theorem zc_92 : zt_92.all (zRowOk 92) = true := by decide +kernel
theorem zw_92 : ∀ w ∈ zt_92.flatMap (zNds 92), zWd w := zPls_ok [461, 701, 73, 700, 699, 701, 73, 700, 699, 464, 466, 1068, 73, 1067, 35, 1065] (by decide +kernel) (by decide +kernel)
theorem zc_93 : zt_93.all (zRowOk 93) = true := by decide +kernel
theorem zw_93 : ∀ w ∈ zt_93.flatMap (zNds 93), zWd w := zPls_ok [461, 701, 73, 700, 699, 468, 306, 701, 73, 700, 699, 466, 468, 468, 415, 629, 76, 627, 628, 626, 415, 652, 76, 650, 651, 649] (by decide +kernel) (by decide +kernel)
theorem zc_94 : zt_94.all (zRowOk 94) = true := by decide +kernel
theorem zw_94 : ∀ w ∈ zt_94.flatMap (zNds 94), zWd w := zPls_ok [520, 73, 519, 0, 517, 528, 73, 527, 2, 525, 532, 73, 531, 3, 529, 536, 73, 535, 4, 533] (by decide +kernel) (by decide +kernel)
theorem zc_95 : zt_95.all (zRowOk 95) = true := by decide +kernel
theorem zw_95 : ∀ w ∈ zt_95.flatMap (zNds 95), zWd w := zPls_ok [545, 546, 550, 73, 548, 549, 547, 546, 462, 546, 463, 694, 73, 693, 12, 691, 726, 73, 725, 14, 723, 735, 73, 734, 15, 732, 546, 751, 73, 749, 750, 748, 546, 464, 755, 73, 754, 16, 752, 546, 793, 73, 791, 792, 790, 546, 801, 73, 799, 800, 798, 546, 814, 508, 73, 506, 507, 815, 546, 516, 73, 514, 515, 816] (by decide +kernel) (by decide +kernel)
theorem zc_96 : zt_96.all (zRowOk 96) = true := by decide +kernel
theorem zw_96 : ∀ w ∈ zt_96.flatMap (zNds 96), zWd w := zPls_ok [] (by decide +kernel) (by decide +kernel)
theorem zc_97 : zt_97.all (zRowOk 97) = true := by decide +kernel
theorem zw_97 : ∀ w ∈ zt_97.flatMap (zNds 97), zWd w := zPls_ok [] (by decide +kernel) (by decide +kernel)
theorem zc_98 : zt_98.all (zRowOk 98) = true := by decide +kernel
theorem zw_98 : ∀ w ∈ zt_98.flatMap (zNds 98), zWd w := zPls_ok [] (by decide +kernel) (by decide +kernel)
theorem zc_99 : zt_99.all (zRowOk 99) = true := by decide +kernel
theorem zw_99 : ∀ w ∈ zt_99.flatMap (zNds 99), zWd w := zPls_ok [463] (by decide +kernel) (by decide +kernel)
theorem zc_100 : zt_100.all (zRowOk 100) = true := by decide +kernel
theorem zw_100 : ∀ w ∈ zt_100.flatMap (zNds 100), zWd w := zPls_ok [912, 208, 78, 211, 78, 210, 913, 470, 917, 81, 915, 916, 914, 470, 366, 468, 967, 76, 965, 966, 964] (by decide +kernel) (by decide +kernel)
theorem zc_101 : zt_101.all (zRowOk 101) = true := by decide +kernel
theorem zw_101 : ∀ w ∈ zt_101.flatMap (zNds 101), zWd w := zPls_ok [468, 468, 629, 76, 627, 628, 626, 652, 76, 650, 651, 649] (by decide +kernel) (by decide +kernel)
theorem zc_102 : zt_102.all (zRowOk 102) = true := by decide +kernel
theorem zw_102 : ∀ w ∈ zt_102.flatMap (zNds 102), zWd w := zPls_ok [415, 648, 73, 647, 8, 645, 1071, 73, 1070, 1069, 467, 415, 664, 74, 662, 663, 690] (by decide +kernel) (by decide +kernel)
theorem zc_103 : zt_103.all (zRowOk 103) = true := by decide +kernel
theorem zw_103 : ∀ w ∈ zt_103.flatMap (zNds 103), zWd w := zPls_ok [678, 99, 677, 1072, 681, 99, 680, 1073] (by decide +kernel) (by decide +kernel)
theorem zc_104 : zt_104.all (zRowOk 104) = true := by decide +kernel
theorem zw_104 : ∀ w ∈ zt_104.flatMap (zNds 104), zWd w := zPls_ok [461, 466, 390, 137, 466, 466, 415, 672, 75, 670, 671, 722] (by decide +kernel) (by decide +kernel)
theorem zc_105 : zt_105.all (zRowOk 105) = true := by decide +kernel
theorem zw_105 : ∀ w ∈ zt_105.flatMap (zNds 105), zWd w := zPls_ok [461, 466, 417] (by decide +kernel) (by decide +kernel)
theorem zc_106 : zt_106.all (zRowOk 106) = true := by decide +kernel
theorem zw_106 : ∀ w ∈ zt_106.flatMap (zNds 106), zWd w := zPls_ok [461, 466, 415, 648, 73, 647, 8, 645, 467, 415, 664, 74, 662, 663, 690] (by decide +kernel) (by decide +kernel)
theorem zc_107 : zt_107.all (zRowOk 107) = true := by decide +kernel
theorem zw_107 : ∀ w ∈ zt_107.flatMap (zNds 107), zWd w := zPls_ok [471, 440, 404, 398, 409, 414, 465, 467, 458, 668, 74, 666, 667, 731] (by decide +kernel) (by decide +kernel)
theorem zc_108 : zt_108.all (zRowOk 108) = true := by decide +kernel
theorem zw_108 : ∀ w ∈ zt_108.flatMap (zNds 108), zWd w := zPls_ok [465, 813, 73, 812, 22, 810] (by decide +kernel) (by decide +kernel)
theorem zc_109 : zt_109.all (zRowOk 109) = true := by decide +kernel
theorem zw_109 : ∀ w ∈ zt_109.flatMap (zNds 109), zWd w := zPls_ok [465, 462] (by decide +kernel) (by decide +kernel)
theorem zc_110 : zt_110.all (zRowOk 110) = true := by decide +kernel
theorem zw_110 : ∀ w ∈ zt_110.flatMap (zNds 110), zWd w := zPls_ok [524, 73, 523, 1, 521] (by decide +kernel) (by decide +kernel)
theorem zc_111 : zt_111.all (zRowOk 111) = true := by decide +kernel
theorem zw_111 : ∀ w ∈ zt_111.flatMap (zNds 111), zWd w := zPls_ok [461, 466, 417, 419, 419] (by decide +kernel) (by decide +kernel)
theorem zc_112 : zt_112.all (zRowOk 112) = true := by decide +kernel
theorem zw_112 : ∀ w ∈ zt_112.flatMap (zNds 112), zWd w := zPls_ok [469, 354, 343, 468, 306, 468, 302, 280] (by decide +kernel) (by decide +kernel)
theorem zc_113 : zt_113.all (zRowOk 113) = true := by decide +kernel
theorem zw_113 : ∀ w ∈ zt_113.flatMap (zNds 113), zWd w := zPls_ok [468, 306, 468, 302, 284, 276, 240, 284, 280, 458, 540, 77, 538, 539, 537] (by decide +kernel) (by decide +kernel)
theorem zc_114 : zt_114.all (zRowOk 114) = true := by decide +kernel
theorem zw_114 : ∀ w ∈ zt_114.flatMap (zNds 114), zWd w := zPls_ok [467, 186, 546, 698, 73, 696, 697, 695, 546, 698, 73, 696, 697, 695] (by decide +kernel) (by decide +kernel)
theorem zc_115 : zt_115.all (zRowOk 115) = true := by decide +kernel
theorem zw_115 : ∀ w ∈ zt_115.flatMap (zNds 115), zWd w := zPls_ok [461, 546, 730, 73, 728, 729, 727, 546, 730, 73, 728, 729, 727] (by decide +kernel) (by decide +kernel)
theorem zc_116 : zt_116.all (zRowOk 116) = true := by decide +kernel
theorem zw_116 : ∀ w ∈ zt_116.flatMap (zNds 116), zWd w := zPls_ok [468, 306, 546, 739, 73, 737, 738, 736, 546, 743, 73, 741, 742, 740] (by decide +kernel) (by decide +kernel)
theorem zc_117 : zt_117.all (zRowOk 117) = true := by decide +kernel
theorem zw_117 : ∀ w ∈ zt_117.flatMap (zNds 117), zWd w := zPls_ok [471, 468, 458, 759, 82, 757, 758, 756, 546, 471, 442] (by decide +kernel) (by decide +kernel)
theorem zc_118 : zt_118.all (zRowOk 118) = true := by decide +kernel
theorem zw_118 : ∀ w ∈ zt_118.flatMap (zNds 118), zWd w := zPls_ok [822] (by decide +kernel) (by decide +kernel)
theorem zc_119 : zt_119.all (zRowOk 119) = true := by decide +kernel
theorem zw_119 : ∀ w ∈ zt_119.flatMap (zNds 119), zWd w := zPls_ok [1794, 180, 1803, 180, 1805, 1810, 1814, 1816] (by decide +kernel) (by decide +kernel)
theorem zc_120 : zt_120.all (zRowOk 120) = true := by decide +kernel
theorem zw_120 : ∀ w ∈ zt_120.flatMap (zNds 120), zWd w := zPls_ok [1734, 1795, 1797, 1730, 1718, 84, 1717, 1979, 1738, 1799, 1799, 1738, 1801, 1742, 1983, 110, 1981, 1982, 1980, 1988, 110, 1986, 1987, 1985, 1547, 84, 1546, 1990] (by decide +kernel) (by decide +kernel)
theorem zc_121 : zt_121.all (zRowOk 121) = true := by decide +kernel
theorem zw_121 : ∀ w ∈ zt_121.flatMap (zNds 121), zWd w := zPls_ok [1807, 1803, 1805, 681, 99, 680, 1984] (by decide +kernel) (by decide +kernel)
theorem zc_122 : zt_122.all (zRowOk 122) = true := by decide +kernel
theorem zw_122 : ∀ w ∈ zt_122.flatMap (zNds 122), zWd w := zPls_ok [1807, 1803, 1805, 678, 99, 677, 1989] (by decide +kernel) (by decide +kernel)
theorem zc_123 : zt_123.all (zRowOk 123) = true := by decide +kernel
theorem zw_123 : ∀ w ∈ zt_123.flatMap (zNds 123), zWd w := zPls_ok [1812, 1812, 1814, 1812, 1816] (by decide +kernel) (by decide +kernel)
theorem zc_124 : zt_124.all (zRowOk 124) = true := by decide +kernel
theorem zw_124 : ∀ w ∈ zt_124.flatMap (zNds 124), zWd w := zPls_ok [1724, 1748, 1750, 1725, 1727, 1729, 1733, 1737, 1741, 1745] (by decide +kernel) (by decide +kernel)
theorem zc_125 : zt_125.all (zRowOk 125) = true := by decide +kernel
theorem zw_125 : ∀ w ∈ zt_125.flatMap (zNds 125), zWd w := zPls_ok [2049, 1720, 104, 1725, 1727, 1729, 1733, 1737, 1741, 1723, 104, 1722, 2050] (by decide +kernel) (by decide +kernel)
theorem zc_126 : zt_126.all (zRowOk 126) = true := by decide +kernel
theorem zw_126 : ∀ w ∈ zt_126.flatMap (zNds 126), zWd w := zPls_ok [1579, 1598, 1580, 1582, 1584, 1586, 1588, 1590, 1592, 1594] (by decide +kernel) (by decide +kernel)
theorem zc_127 : zt_127.all (zRowOk 127) = true := by decide +kernel
theorem zw_127 : ∀ w ∈ zt_127.flatMap (zNds 127), zWd w := zPls_ok [1586, 1711, 84, 1710, 1709, 1588, 1711, 84, 1710, 1709, 1592] (by decide +kernel) (by decide +kernel)
theorem zc_128 : zt_128.all (zRowOk 128) = true := by decide +kernel
theorem zw_128 : ∀ w ∈ zt_128.flatMap (zNds 128), zWd w := zPls_ok [1735, 1582, 1584, 1731, 1718, 84, 1717, 2010, 1739, 1586, 1586, 1739, 1588, 1743, 1596, 1598, 1547, 84, 1546, 2011, 1746, 1594] (by decide +kernel) (by decide +kernel)
theorem zc_130 : zt_130.all (zRowOk 130) = true := by decide +kernel
theorem zw_130 : ∀ w ∈ zt_130.flatMap (zNds 130), zWd w := zPls_ok [1486] (by decide +kernel) (by decide +kernel)
theorem zc_131 : zt_131.all (zRowOk 131) = true := by decide +kernel
theorem zw_131 : ∀ w ∈ zt_131.flatMap (zNds 131), zWd w := zPls_ok [] (by decide +kernel) (by decide +kernel)
theorem zc_132 : zt_132.all (zRowOk 132) = true := by decide +kernel
theorem zw_132 : ∀ w ∈ zt_132.flatMap (zNds 132), zWd w := zPls_ok [] (by decide +kernel) (by decide +kernel)
theorem zc_133 : zt_133.all (zRowOk 133) = true := by decide +kernel
theorem zw_133 : ∀ w ∈ zt_133.flatMap (zNds 133), zWd w := zPls_ok [] (by decide +kernel) (by decide +kernel)
theorem zc_134 : zt_134.all (zRowOk 134) = true := by decide +kernel
theorem zw_134 : ∀ w ∈ zt_134.flatMap (zNds 134), zWd w := zPls_ok [1493, 1573, 87, 1571, 1569, 1565, 1493, 1696, 87, 1694, 1692, 1689, 1574, 1581, 2009, 97, 2007, 2008, 2006, 1708, 97, 1706, 1707, 1705, 1708, 97, 1706, 1707, 1705, 1591, 1591, 1708, 97, 1706, 1707, 1705] (by decide +kernel) (by decide +kernel)
theorem zc_135 : zt_135.all (zRowOk 135) = true := by decide +kernel
theorem zw_135 : ∀ w ∈ zt_135.flatMap (zNds 135), zWd w := zPls_ok [1726, 2005, 84, 2004, 60, 2002, 1492, 1736, 1728, 2005, 84, 2004, 60, 2002, 1492, 1736, 678, 99, 677, 2012, 681, 99, 680, 1938] (by decide +kernel) (by decide +kernel)

/-! ===== the check of the rows, group 2 ===== -/
theorem zc_102 : zt_102.all (zRowOk 102) = true := by decide +kernel
theorem zw_102 : ∀ w ∈ zt_102.flatMap (zNds 102), zWd w := zPls_ok2 [415, 648, 73, 647, 8, 645, 1071, 73, 1070, 1069, 467, 415, 664, 74, 662, 663, 690] (by decide +kernel) (by decide +kernel)
theorem zc_103 : zt_103.all (zRowOk 103) = true := by decide +kernel
theorem zw_103 : ∀ w ∈ zt_103.flatMap (zNds 103), zWd w := zPls_ok2 [678, 99, 677, 1072, 681, 99, 680, 1073] (by decide +kernel) (by decide +kernel)
theorem zc_104 : zt_104.all (zRowOk 104) = true := by decide +kernel
theorem zw_104 : ∀ w ∈ zt_104.flatMap (zNds 104), zWd w := zPls_ok2 [461, 466, 390, 137, 466, 466, 415, 672, 75, 670, 671, 722] (by decide +kernel) (by decide +kernel)
theorem zc_105 : zt_105.all (zRowOk 105) = true := by decide +kernel
theorem zw_105 : ∀ w ∈ zt_105.flatMap (zNds 105), zWd w := zPls_ok2 [461, 466, 417] (by decide +kernel) (by decide +kernel)
theorem zc_106 : zt_106.all (zRowOk 106) = true := by decide +kernel
theorem zw_106 : ∀ w ∈ zt_106.flatMap (zNds 106), zWd w := zPls_ok2 [461, 466, 415, 648, 73, 647, 8, 645, 467, 415, 664, 74, 662, 663, 690] (by decide +kernel) (by decide +kernel)
theorem zc_107 : zt_107.all (zRowOk 107) = true := by decide +kernel
theorem zw_107 : ∀ w ∈ zt_107.flatMap (zNds 107), zWd w := zPls_ok2 [471, 440, 404, 398, 409, 414, 465, 467, 458, 668, 74, 666, 667, 731] (by decide +kernel) (by decide +kernel)
theorem zc_108 : zt_108.all (zRowOk 108) = true := by decide +kernel
theorem zw_108 : ∀ w ∈ zt_108.flatMap (zNds 108), zWd w := zPls_ok2 [465, 813, 73, 812, 22, 810] (by decide +kernel) (by decide +kernel)
theorem zc_109 : zt_109.all (zRowOk 109) = true := by decide +kernel
theorem zw_109 : ∀ w ∈ zt_109.flatMap (zNds 109), zWd w := zPls_ok2 [465, 462] (by decide +kernel) (by decide +kernel)
theorem zc_110 : zt_110.all (zRowOk 110) = true := by decide +kernel
theorem zw_110 : ∀ w ∈ zt_110.flatMap (zNds 110), zWd w := zPls_ok2 [524, 73, 523, 1, 521] (by decide +kernel) (by decide +kernel)
theorem zc_111 : zt_111.all (zRowOk 111) = true := by decide +kernel
theorem zw_111 : ∀ w ∈ zt_111.flatMap (zNds 111), zWd w := zPls_ok2 [461, 466, 417, 419, 419] (by decide +kernel) (by decide +kernel)
theorem zc_112 : zt_112.all (zRowOk 112) = true := by decide +kernel
theorem zw_112 : ∀ w ∈ zt_112.flatMap (zNds 112), zWd w := zPls_ok2 [469, 354, 343, 468, 306, 468, 302, 280] (by decide +kernel) (by decide +kernel)
theorem zc_113 : zt_113.all (zRowOk 113) = true := by decide +kernel
theorem zw_113 : ∀ w ∈ zt_113.flatMap (zNds 113), zWd w := zPls_ok2 [468, 306, 468, 302, 284, 276, 240, 284, 280, 458, 540, 77, 538, 539, 537] (by decide +kernel) (by decide +kernel)
theorem zc_114 : zt_114.all (zRowOk 114) = true := by decide +kernel
theorem zw_114 : ∀ w ∈ zt_114.flatMap (zNds 114), zWd w := zPls_ok2 [467, 186, 546, 698, 73, 696, 697, 695, 546, 698, 73, 696, 697, 695] (by decide +kernel) (by decide +kernel)
theorem zc_115 : zt_115.all (zRowOk 115) = true := by decide +kernel
theorem zw_115 : ∀ w ∈ zt_115.flatMap (zNds 115), zWd w := zPls_ok2 [461, 546, 730, 73, 728, 729, 727, 546, 730, 73, 728, 729, 727] (by decide +kernel) (by decide +kernel)
theorem zc_116 : zt_116.all (zRowOk 116) = true := by decide +kernel
theorem zw_116 : ∀ w ∈ zt_116.flatMap (zNds 116), zWd w := zPls_ok2 [468, 306, 546, 739, 73, 737, 738, 736, 546, 743, 73, 741, 742, 740] (by decide +kernel) (by decide +kernel)
theorem zc_117 : zt_117.all (zRowOk 117) = true := by decide +kernel
theorem zw_117 : ∀ w ∈ zt_117.flatMap (zNds 117), zWd w := zPls_ok2 [471, 468, 458, 759, 82, 757, 758, 756, 546, 471, 442] (by decide +kernel) (by decide +kernel)
theorem zc_118 : zt_118.all (zRowOk 118) = true := by decide +kernel
theorem zw_118 : ∀ w ∈ zt_118.flatMap (zNds 118), zWd w := zPls_ok2 [822] (by decide +kernel) (by decide +kernel)
theorem zc_119 : zt_119.all (zRowOk 119) = true := by decide +kernel
theorem zw_119 : ∀ w ∈ zt_119.flatMap (zNds 119), zWd w := zPls_ok2 [1798, 180, 1807, 180, 1809, 1814, 1818, 1820] (by decide +kernel) (by decide +kernel)
theorem zc_120 : zt_120.all (zRowOk 120) = true := by decide +kernel
theorem zw_120 : ∀ w ∈ zt_120.flatMap (zNds 120), zWd w := zPls_ok2 [1738, 1799, 1801, 1734, 1722, 84, 1721, 1983, 1742, 1803, 1803, 1742, 1805, 1746, 1987, 110, 1985, 1986, 1984, 1992, 110, 1990, 1991, 1989, 1551, 84, 1550, 1994] (by decide +kernel) (by decide +kernel)
theorem zc_121 : zt_121.all (zRowOk 121) = true := by decide +kernel
theorem zw_121 : ∀ w ∈ zt_121.flatMap (zNds 121), zWd w := zPls_ok2 [1811, 1807, 1809, 681, 99, 680, 1988] (by decide +kernel) (by decide +kernel)
theorem zc_122 : zt_122.all (zRowOk 122) = true := by decide +kernel
theorem zw_122 : ∀ w ∈ zt_122.flatMap (zNds 122), zWd w := zPls_ok2 [1811, 1807, 1809, 678, 99, 677, 1993] (by decide +kernel) (by decide +kernel)
theorem zc_123 : zt_123.all (zRowOk 123) = true := by decide +kernel
theorem zw_123 : ∀ w ∈ zt_123.flatMap (zNds 123), zWd w := zPls_ok2 [1816, 1816, 1818, 1816, 1820] (by decide +kernel) (by decide +kernel)
theorem zc_124 : zt_124.all (zRowOk 124) = true := by decide +kernel
theorem zw_124 : ∀ w ∈ zt_124.flatMap (zNds 124), zWd w := zPls_ok2 [1728, 1752, 1754, 1729, 1731, 1733, 1737, 1741, 1745, 1749] (by decide +kernel) (by decide +kernel)
theorem zc_125 : zt_125.all (zRowOk 125) = true := by decide +kernel
theorem zw_125 : ∀ w ∈ zt_125.flatMap (zNds 125), zWd w := zPls_ok2 [2053, 1724, 104, 1729, 1731, 1733, 1737, 1741, 1745, 1727, 104, 1726, 2054] (by decide +kernel) (by decide +kernel)
theorem zc_126 : zt_126.all (zRowOk 126) = true := by decide +kernel
theorem zw_126 : ∀ w ∈ zt_126.flatMap (zNds 126), zWd w := zPls_ok2 [1583, 1602, 1584, 1586, 1588, 1590, 1592, 1594, 1596, 1598] (by decide +kernel) (by decide +kernel)
theorem zc_127 : zt_127.all (zRowOk 127) = true := by decide +kernel
theorem zw_127 : ∀ w ∈ zt_127.flatMap (zNds 127), zWd w := zPls_ok2 [1590, 1715, 84, 1714, 1713, 1592, 1715, 84, 1714, 1713, 1596] (by decide +kernel) (by decide +kernel)
theorem zc_128 : zt_128.all (zRowOk 128) = true := by decide +kernel
theorem zw_128 : ∀ w ∈ zt_128.flatMap (zNds 128), zWd w := zPls_ok2 [1739, 1586, 1588, 1735, 1722, 84, 1721, 2014, 1743, 1590, 1590, 1743, 1592, 1747, 1600, 1602, 1551, 84, 1550, 2015, 1750, 1598] (by decide +kernel) (by decide +kernel)
theorem zc_130 : zt_130.all (zRowOk 130) = true := by decide +kernel
theorem zw_130 : ∀ w ∈ zt_130.flatMap (zNds 130), zWd w := zPls_ok2 [1486] (by decide +kernel) (by decide +kernel)
theorem zc_131 : zt_131.all (zRowOk 131) = true := by decide +kernel
theorem zw_131 : ∀ w ∈ zt_131.flatMap (zNds 131), zWd w := zPls_ok2 [1486] (by decide +kernel) (by decide +kernel)
theorem zc_132 : zt_132.all (zRowOk 132) = true := by decide +kernel
theorem zw_132 : ∀ w ∈ zt_132.flatMap (zNds 132), zWd w := zPls_ok2 [] (by decide +kernel) (by decide +kernel)
theorem zc_133 : zt_133.all (zRowOk 133) = true := by decide +kernel
theorem zw_133 : ∀ w ∈ zt_133.flatMap (zNds 133), zWd w := zPls_ok2 [] (by decide +kernel) (by decide +kernel)
theorem zc_134 : zt_134.all (zRowOk 134) = true := by decide +kernel
theorem zw_134 : ∀ w ∈ zt_134.flatMap (zNds 134), zWd w := zPls_ok2 [] (by decide +kernel) (by decide +kernel)
theorem zc_135 : zt_135.all (zRowOk 135) = true := by decide +kernel
theorem zw_135 : ∀ w ∈ zt_135.flatMap (zNds 135), zWd w := zPls_ok2 [1493, 1577, 87, 1575, 1573, 1569, 1493, 1700, 87, 1698, 1696, 1693, 1578, 1585, 2013, 97, 2011, 2012, 2010, 1712, 97, 1710, 1711, 1709, 1712, 97, 1710, 1711, 1709, 1595, 1595, 1712, 97, 1710, 1711, 1709] (by decide +kernel) (by decide +kernel)
theorem zc_136 : zt_136.all (zRowOk 136) = true := by decide +kernel
theorem zw_136 : ∀ w ∈ zt_136.flatMap (zNds 136), zWd w := zPls_ok2 [1730, 2009, 84, 2008, 60, 2006, 1492, 1740, 1732, 2009, 84, 2008, 60, 2006, 1492, 1740, 678, 99, 677, 2016, 681, 99, 680, 1942] (by decide +kernel) (by decide +kernel)
theorem zc_137 : zt_137.all (zRowOk 137) = true := by decide +kernel
theorem zw_137 : ∀ w ∈ zt_137.flatMap (zNds 137), zWd w := zPls_ok2 [] (by decide +kernel) (by decide +kernel)
theorem zc_138 : zt_138.all (zRowOk 138) = true := by decide +kernel
theorem zw_138 : ∀ w ∈ zt_138.flatMap (zNds 138), zWd w := zPls_ok2 [1495, 1700, 87, 1698, 1696, 1693, 1793, 1978, 110, 1976, 1977, 1975] (by decide +kernel) (by decide +kernel)
theorem zc_139 : zt_139.all (zRowOk 139) = true := by decide +kernel
theorem zw_139 : ∀ w ∈ zt_139.flatMap (zNds 139), zWd w := zPls_ok2 [1722, 84, 1721, 1720, 1495, 1577, 87, 1575, 1573, 1569, 1495, 1700, 87, 1698, 1696, 1693, 1793, 1815, 1974, 84, 1973, 57, 1971, 1495, 1700, 87, 1698, 1696, 1693, 1793, 1982, 110, 1980, 1981, 1979, 1998, 84, 1997, 58, 1995, 2001, 84, 2000, 1999, 1495, 1700, 87, 1698, 1696, 1693, 1793, 1813, 2005, 84, 2004, 59, 2002, 1974, 84, 1973, 57, 1971, 1998, 84, 1997, 58, 1995] (by decide +kernel) (by decide +kernel)
theorem zc_140 : zt_140.all (zRowOk 140) = true := by decide +kernel
theorem zw_140 : ∀ w ∈ zt_140.flatMap (zNds 140), zWd w := zPls_ok2 [1495, 1577, 87, 1575, 1573, 1569, 1495, 1700, 87, 1698, 1696, 1693, 1793, 1815, 1974, 84, 1973, 57, 1971, 1495, 1700, 87, 1698, 1696, 1693, 1793, 1982, 110, 1980, 1981, 1979, 1998, 84, 1997, 58, 1995, 2001, 84, 2000, 1999] (by decide +kernel) (by decide +kernel)
theorem zc_141 : zt_141.all (zRowOk 141) = true := by decide +kernel
theorem zw_141 : ∀ w ∈ zt_141.flatMap (zNds 141), zWd w := zPls_ok2 [1751, 1970, 84, 1969, 56, 1967] (by decide +kernel) (by decide +kernel)
theorem zc_142 : zt_142.all (zRowOk 142) = true := by decide +kernel
theorem zw_142 : ∀ w ∈ zt_142.flatMap (zNds 142), zWd w := zPls_ok2 [1502, 1496, 1383, 105, 1381, 1382, 1779, 1496, 1502, 1858, 105, 1856, 1857, 1855, 1502, 1502, 1502, 1496, 1383, 105, 1381, 1382, 1779, 1496, 1502, 1858, 105, 1856, 1857, 1855] (by decide +kernel) (by decide +kernel)
theorem zc_143 : zt_143.all (zRowOk 143) = true := by decide +kernel
theorem zw_143 : ∀ w ∈ zt_143.flatMap (zNds 143), zWd w := zPls_ok2 [1854, 84, 1853, 43, 1851, 1502, 1502] (by decide +kernel) (by decide +kernel)
theorem zc_144 : zt_144.all (zRowOk 144) = true := by decide +kernel
theorem zw_144 : ∀ w ∈ zt_144.flatMap (zNds 144), zWd w := zPls_ok2 [] (by decide +kernel) (by decide +kernel)
theorem zc_145 : zt_145.all (zRowOk 145) = true := by decide +kernel
theorem zw_145 : ∀ w ∈ zt_145.flatMap (zNds 145), zWd w := zPls_ok2 [1854, 84, 1853, 43, 1851, 1503, 1876, 84, 1875, 1874, 1503, 1502, 1502, 1503] (by decide +kernel) (by decide +kernel)
theorem zc_146 : zt_146.all (zRowOk 146) = true := by decide +kernel
theorem zw_146 : ∀ w ∈ zt_146.flatMap (zNds 146), zWd w := zPls_ok2 [1854, 84, 1853, 43, 1851, 1503, 1876, 84, 1875, 1874, 1503, 1502, 1496, 1383, 105, 1381, 1382, 1779, 1496, 1502, 1858, 105, 1856, 1857, 1855, 1876, 84, 1875, 1874, 1496, 1502, 1858, 105, 1856, 1857, 1855, 1502, 1502, 1503, 1503] (by decide +kernel) (by decide +kernel)
theorem zc_147 : zt_147.all (zRowOk 147) = true := by decide +kernel
theorem zw_147 : ∀ w ∈ zt_147.flatMap (zNds 147), zWd w := zPls_ok2 [1884, 84, 1883, 46, 1881, 1503, 1503] (by decide +kernel) (by decide +kernel)
theorem zc_148_0 : zt_148_0.all (zRowOk 148) = true := by decide +kernel
theorem zw_148_0 : ∀ w ∈ zt_148_0.flatMap (zNds 148), zWd w := zPls_ok2 [1793, 1794, 110, 1797, 110, 1796, 1795, 1502, 1850, 84, 1849, 42, 1847, 1503, 1873, 84, 1872, 44, 1870, 1800, 1503, 1850, 84, 1849, 42, 1847, 1503, 1503, 1854, 84, 1853, 43, 1851, 1876, 84, 1875, 1874, 1873, 84, 1872, 44, 1870, 1503, 1503, 1802, 1802, 1503, 1854, 84, 1853, 43, 1851, 1880, 84, 1879, 45, 1877, 1503, 1850, 84, 1849, 42, 1847, 1503, 1850, 84, 1849, 42, 1847, 1813, 1850, 84, 1849, 42, 1847] (by decide +kernel) (by decide +kernel)

/-! ===== the check of the rows, group 6 ===== -/
theorem zc_115 : zt_115.all (zRowOk 115) = true := by decide +kernel
theorem zw_115 : ∀ w ∈ zt_115.flatMap (zNds 115), zWd w := zPls_ok [461, 546, 730, 73, 728, 729, 727, 546, 730, 73, 728, 729, 727] (by decide +kernel) (by decide +kernel)
theorem zc_116 : zt_116.all (zRowOk 116) = true := by decide +kernel
theorem zw_116 : ∀ w ∈ zt_116.flatMap (zNds 116), zWd w := zPls_ok [468, 306, 546, 739, 73, 737, 738, 736, 546, 743, 73, 741, 742, 740] (by decide +kernel) (by decide +kernel)
theorem zc_117 : zt_117.all (zRowOk 117) = true := by decide +kernel
theorem zw_117 : ∀ w ∈ zt_117.flatMap (zNds 117), zWd w := zPls_ok [471, 468, 458, 759, 82, 757, 758, 756, 546, 471, 442] (by decide +kernel) (by decide +kernel)
theorem zc_118 : zt_118.all (zRowOk 118) = true := by decide +kernel
theorem zw_118 : ∀ w ∈ zt_118.flatMap (zNds 118), zWd w := zPls_ok [822] (by decide +kernel) (by decide +kernel)
theorem zc_119 : zt_119.all (zRowOk 119) = true := by decide +kernel
theorem zw_119 : ∀ w ∈ zt_119.flatMap (zNds 119), zWd w := zPls_ok [1794, 180, 1803, 180, 1805, 1810, 1814, 1816] (by decide +kernel) (by decide +kernel)
theorem zc_120 : zt_120.all (zRowOk 120) = true := by decide +kernel
theorem zw_120 : ∀ w ∈ zt_120.flatMap (zNds 120), zWd w := zPls_ok [1734, 1795, 1797, 1730, 1718, 84, 1717, 1979, 1738, 1799, 1799, 1738, 1801, 1742, 1983, 110, 1981, 1982, 1980, 1988, 110, 1986, 1987, 1985, 1547, 84, 1546, 1990] (by decide +kernel) (by decide +kernel)
theorem zc_121 : zt_121.all (zRowOk 121) = true := by decide +kernel
theorem zw_121 : ∀ w ∈ zt_121.flatMap (zNds 121), zWd w := zPls_ok [1807, 1803, 1805, 681, 99, 680, 1984] (by decide +kernel) (by decide +kernel)
theorem zc_122 : zt_122.all (zRowOk 122) = true := by decide +kernel
theorem zw_122 : ∀ w ∈ zt_122.flatMap (zNds 122), zWd w := zPls_ok [1807, 1803, 1805, 678, 99, 677, 1989] (by decide +kernel) (by decide +kernel)
theorem zc_123 : zt_123.all (zRowOk 123) = true := by decide +kernel
theorem zw_123 : ∀ w ∈ zt_123.flatMap (zNds 123), zWd w := zPls_ok [1812, 1812, 1814, 1812, 1816] (by decide +kernel) (by decide +kernel)
theorem zc_124 : zt_124.all (zRowOk 124) = true := by decide +kernel
theorem zw_124 : ∀ w ∈ zt_124.flatMap (zNds 124), zWd w := zPls_ok [1724, 1748, 1750, 1725, 1727, 1729, 1733, 1737, 1741, 1745] (by decide +kernel) (by decide +kernel)
theorem zc_125 : zt_125.all (zRowOk 125) = true := by decide +kernel
theorem zw_125 : ∀ w ∈ zt_125.flatMap (zNds 125), zWd w := zPls_ok [2049, 1720, 104, 1725, 1727, 1729, 1733, 1737, 1741, 1723, 104, 1722, 2050] (by decide +kernel) (by decide +kernel)
theorem zc_126 : zt_126.all (zRowOk 126) = true := by decide +kernel
theorem zw_126 : ∀ w ∈ zt_126.flatMap (zNds 126), zWd w := zPls_ok [1579, 1598, 1580, 1582, 1584, 1586, 1588, 1590, 1592, 1594] (by decide +kernel) (by decide +kernel)
theorem zc_127 : zt_127.all (zRowOk 127) = true := by decide +kernel
theorem zw_127 : ∀ w ∈ zt_127.flatMap (zNds 127), zWd w := zPls_ok [1586, 1711, 84, 1710, 1709, 1588, 1711, 84, 1710, 1709, 1592] (by decide +kernel) (by decide +kernel)
theorem zc_128 : zt_128.all (zRowOk 128) = true := by decide +kernel
theorem zw_128 : ∀ w ∈ zt_128.flatMap (zNds 128), zWd w := zPls_ok [1735, 1582, 1584, 1731, 1718, 84, 1717, 2010, 1739, 1586, 1586, 1739, 1588, 1743, 1596, 1598, 1547, 84, 1546, 2011, 1746, 1594] (by decide +kernel) (by decide +kernel)
theorem zc_130 : zt_130.all (zRowOk 130) = true := by decide +kernel
theorem zw_130 : ∀ w ∈ zt_130.flatMap (zNds 130), zWd w := zPls_ok [1486] (by decide +kernel) (by decide +kernel)
theorem zc_131 : zt_131.all (zRowOk 131) = true := by decide +kernel
theorem zw_131 : ∀ w ∈ zt_131.flatMap (zNds 131), zWd w := zPls_ok [] (by decide +kernel) (by decide +kernel)
theorem zc_132 : zt_132.all (zRowOk 132) = true := by decide +kernel
theorem zw_132 : ∀ w ∈ zt_132.flatMap (zNds 132), zWd w := zPls_ok [] (by decide +kernel) (by decide +kernel)
theorem zc_133 : zt_133.all (zRowOk 133) = true := by decide +kernel
theorem zw_133 : ∀ w ∈ zt_133.flatMap (zNds 133), zWd w := zPls_ok [] (by decide +kernel) (by decide +kernel)
theorem zc_134 : zt_134.all (zRowOk 134) = true := by decide +kernel
theorem zw_134 : ∀ w ∈ zt_134.flatMap (zNds 134), zWd w := zPls_ok [1493, 1573, 87, 1571, 1569, 1565, 1493, 1696, 87, 1694, 1692, 1689, 1574, 1581, 2009, 97, 2007, 2008, 2006, 1708, 97, 1706, 1707, 1705, 1708, 97, 1706, 1707, 1705, 1591, 1591, 1708, 97, 1706, 1707, 1705] (by decide +kernel) (by decide +kernel)
theorem zc_135 : zt_135.all (zRowOk 135) = true := by decide +kernel
theorem zw_135 : ∀ w ∈ zt_135.flatMap (zNds 135), zWd w := zPls_ok [1726, 2005, 84, 2004, 60, 2002, 1492, 1736, 1728, 2005, 84, 2004, 60, 2002, 1492, 1736, 678, 99, 677, 2012, 681, 99, 680, 1938] (by decide +kernel) (by decide +kernel)
theorem zc_136 : zt_136.all (zRowOk 136) = true := by decide +kernel
theorem zw_136 : ∀ w ∈ zt_136.flatMap (zNds 136), zWd w := zPls_ok [] (by decide +kernel) (by decide +kernel)
theorem zc_137 : zt_137.all (zRowOk 137) = true := by decide +kernel
theorem zw_137 : ∀ w ∈ zt_137.flatMap (zNds 137), zWd w := zPls_ok [1495, 1696, 87, 1694, 1692, 1689, 1789, 1974, 110, 1972, 1973, 1971] (by decide +kernel) (by decide +kernel)
theorem zc_138 : zt_138.all (zRowOk 138) = true := by decide +kernel
theorem zw_138 : ∀ w ∈ zt_138.flatMap (zNds 138), zWd w := zPls_ok [1718, 84, 1717, 1716, 1495, 1573, 87, 1571, 1569, 1565, 1495, 1696, 87, 1694, 1692, 1689, 1789, 1811, 1970, 84, 1969, 57, 1967, 1495, 1696, 87, 1694, 1692, 1689, 1789, 1978, 110, 1976, 1977, 1975, 1994, 84, 1993, 58, 1991, 1997, 84, 1996, 1995, 1495, 1696, 87, 1694, 1692, 1689, 1789, 1809, 2001, 84, 2000, 59, 1998, 1970, 84, 1969, 57, 1967, 1994, 84, 1993, 58, 1991] (by decide +kernel) (by decide +kernel)

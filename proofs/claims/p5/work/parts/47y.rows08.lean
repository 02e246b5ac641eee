/-! ===== the check of the rows, group 8 ===== -/
theorem zc_207_2 : zt_207_2.all (zRowOk 207) = true := by decide +kernel
theorem zw_207_2 : ∀ w ∈ zt_207_2.flatMap (zNds 207), zWd w := zPls_ok2 [2088, 84, 2087, 65, 2085, 2160, 2160, 2105, 84, 2104, 67, 2102, 2160, 2113, 84, 2112, 68, 2110, 2160, 2161, 2121, 84, 2120, 69, 2118, 2160, 2154, 84, 2153, 71, 2151] (by decide +kernel) (by decide +kernel)
theorem zc_207 : zt_207.all (zRowOk 207) = true := zAll_app zc_207_0 (zAll_app zc_207_1 (zc_207_2))
theorem zw_207 : ∀ w ∈ zt_207.flatMap (zNds 207), zWd w := zFl_app zw_207_0 (zFl_app zw_207_1 (zw_207_2))
theorem zc_208 : zt_208.all (zRowOk 208) = true := by decide +kernel
theorem zw_208 : ∀ w ∈ zt_208.flatMap (zNds 208), zWd w := zPls_ok2 [838, 73, 836, 837, 835, 823] (by decide +kernel) (by decide +kernel)
theorem zc_209 : zt_209.all (zRowOk 209) = true := by decide +kernel
theorem zw_209 : ∀ w ∈ zt_209.flatMap (zNds 209), zWd w := zPls_ok2 [845, 73, 843, 844, 842, 823] (by decide +kernel) (by decide +kernel)
theorem zc_210 : zt_210.all (zRowOk 210) = true := by decide +kernel
theorem zw_210 : ∀ w ∈ zt_210.flatMap (zNds 210), zWd w := zPls_ok2 [852, 73, 850, 851, 849, 823] (by decide +kernel) (by decide +kernel)
theorem zc_211 : zt_211.all (zRowOk 211) = true := by decide +kernel
theorem zw_211 : ∀ w ∈ zt_211.flatMap (zNds 211), zWd w := zPls_ok2 [860, 73, 858, 859, 857, 823] (by decide +kernel) (by decide +kernel)
theorem zc_212 : zt_212.all (zRowOk 212) = true := by decide +kernel
theorem zw_212 : ∀ w ∈ zt_212.flatMap (zNds 212), zWd w := zPls_ok2 [886, 73, 884, 885, 883, 823] (by decide +kernel) (by decide +kernel)
theorem zc_213 : zt_213.all (zRowOk 213) = true := by decide +kernel
theorem zw_213 : ∀ w ∈ zt_213.flatMap (zNds 213), zWd w := zPls_ok2 [893, 73, 891, 892, 890, 823] (by decide +kernel) (by decide +kernel)
theorem zc_214 : zt_214.all (zRowOk 214) = true := by decide +kernel
theorem zw_214 : ∀ w ∈ zt_214.flatMap (zNds 214), zWd w := zPls_ok2 [900, 73, 898, 899, 897, 823] (by decide +kernel) (by decide +kernel)
theorem zc_215 : zt_215.all (zRowOk 215) = true := by decide +kernel
theorem zw_215 : ∀ w ∈ zt_215.flatMap (zNds 215), zWd w := zPls_ok2 [907, 73, 905, 906, 904, 823] (by decide +kernel) (by decide +kernel)
theorem zc_216 : zt_216.all (zRowOk 216) = true := by decide +kernel
theorem zw_216 : ∀ w ∈ zt_216.flatMap (zNds 216), zWd w := zPls_ok2 [979, 73, 977, 978, 976, 823] (by decide +kernel) (by decide +kernel)
theorem zc_217 : zt_217.all (zRowOk 217) = true := by decide +kernel
theorem zw_217 : ∀ w ∈ zt_217.flatMap (zNds 217), zWd w := zPls_ok2 [986, 73, 984, 985, 983, 823] (by decide +kernel) (by decide +kernel)
theorem zc_218 : zt_218.all (zRowOk 218) = true := by decide +kernel
theorem zw_218 : ∀ w ∈ zt_218.flatMap (zNds 218), zWd w := zPls_ok2 [997, 73, 995, 996, 994, 823] (by decide +kernel) (by decide +kernel)
theorem zc_219 : zt_219.all (zRowOk 219) = true := by decide +kernel
theorem zw_219 : ∀ w ∈ zt_219.flatMap (zNds 219), zWd w := zPls_ok2 [1004, 73, 1002, 1003, 1001, 823] (by decide +kernel) (by decide +kernel)
theorem zc_220 : zt_220.all (zRowOk 220) = true := by decide +kernel
theorem zw_220 : ∀ w ∈ zt_220.flatMap (zNds 220), zWd w := zPls_ok2 [1011, 73, 1009, 1010, 1008, 823] (by decide +kernel) (by decide +kernel)
theorem zc_221 : zt_221.all (zRowOk 221) = true := by decide +kernel
theorem zw_221 : ∀ w ∈ zt_221.flatMap (zNds 221), zWd w := zPls_ok2 [1022, 73, 1020, 1021, 1019, 823] (by decide +kernel) (by decide +kernel)
theorem zc_222 : zt_222.all (zRowOk 222) = true := by decide +kernel
theorem zw_222 : ∀ w ∈ zt_222.flatMap (zNds 222), zWd w := zPls_ok2 [1050, 73, 1048, 1049, 1047, 823] (by decide +kernel) (by decide +kernel)
theorem zc_223 : zt_223.all (zRowOk 223) = true := by decide +kernel
theorem zw_223 : ∀ w ∈ zt_223.flatMap (zNds 223), zWd w := zPls_ok2 [1057, 73, 1055, 1056, 1054, 823] (by decide +kernel) (by decide +kernel)
theorem zc_224 : zt_224.all (zRowOk 224) = true := by decide +kernel
theorem zw_224 : ∀ w ∈ zt_224.flatMap (zNds 224), zWd w := zPls_ok2 [1064, 73, 1062, 1063, 1061, 823] (by decide +kernel) (by decide +kernel)
theorem zc_225 : zt_225.all (zRowOk 225) = true := by decide +kernel
theorem zw_225 : ∀ w ∈ zt_225.flatMap (zNds 225), zWd w := zPls_ok2 [1080, 73, 1078, 1079, 1077, 823] (by decide +kernel) (by decide +kernel)
theorem zc_226 : zt_226.all (zRowOk 226) = true := by decide +kernel
theorem zw_226 : ∀ w ∈ zt_226.flatMap (zNds 226), zWd w := zPls_ok2 [1087, 73, 1085, 1086, 1084, 823] (by decide +kernel) (by decide +kernel)
theorem zc_227 : zt_227.all (zRowOk 227) = true := by decide +kernel
theorem zw_227 : ∀ w ∈ zt_227.flatMap (zNds 227), zWd w := zPls_ok2 [1094, 73, 1092, 1093, 1091, 823] (by decide +kernel) (by decide +kernel)
theorem zc_228 : zt_228.all (zRowOk 228) = true := by decide +kernel
theorem zw_228 : ∀ w ∈ zt_228.flatMap (zNds 228), zWd w := zPls_ok2 [698, 73, 696, 697, 1098, 823] (by decide +kernel) (by decide +kernel)
theorem zc_229 : zt_229.all (zRowOk 229) = true := by decide +kernel
theorem zw_229 : ∀ w ∈ zt_229.flatMap (zNds 229), zWd w := zPls_ok2 [730, 73, 728, 729, 1102, 823] (by decide +kernel) (by decide +kernel)
theorem zc_230 : zt_230.all (zRowOk 230) = true := by decide +kernel
theorem zw_230 : ∀ w ∈ zt_230.flatMap (zNds 230), zWd w := zPls_ok2 [1109, 73, 1107, 1108, 1106, 823] (by decide +kernel) (by decide +kernel)
theorem zc_231 : zt_231.all (zRowOk 231) = true := by decide +kernel
theorem zw_231 : ∀ w ∈ zt_231.flatMap (zNds 231), zWd w := zPls_ok2 [739, 73, 737, 738, 1117, 823] (by decide +kernel) (by decide +kernel)
theorem zc_232 : zt_232.all (zRowOk 232) = true := by decide +kernel
theorem zw_232 : ∀ w ∈ zt_232.flatMap (zNds 232), zWd w := zPls_ok2 [743, 73, 741, 742, 1121, 823] (by decide +kernel) (by decide +kernel)
theorem zc_233 : zt_233.all (zRowOk 233) = true := by decide +kernel
theorem zw_233 : ∀ w ∈ zt_233.flatMap (zNds 233), zWd w := zPls_ok2 [751, 73, 749, 750, 1125, 823] (by decide +kernel) (by decide +kernel)
theorem zc_234 : zt_234.all (zRowOk 234) = true := by decide +kernel
theorem zw_234 : ∀ w ∈ zt_234.flatMap (zNds 234), zWd w := zPls_ok2 [1132, 73, 1130, 1131, 1129, 823] (by decide +kernel) (by decide +kernel)
theorem zc_235 : zt_235.all (zRowOk 235) = true := by decide +kernel
theorem zw_235 : ∀ w ∈ zt_235.flatMap (zNds 235), zWd w := zPls_ok2 [1139, 73, 1137, 1138, 1136, 823] (by decide +kernel) (by decide +kernel)
theorem zc_236 : zt_236.all (zRowOk 236) = true := by decide +kernel
theorem zw_236 : ∀ w ∈ zt_236.flatMap (zNds 236), zWd w := zPls_ok2 [793, 73, 791, 792, 1146, 823] (by decide +kernel) (by decide +kernel)
theorem zc_237 : zt_237.all (zRowOk 237) = true := by decide +kernel
theorem zw_237 : ∀ w ∈ zt_237.flatMap (zNds 237), zWd w := zPls_ok2 [801, 73, 799, 800, 1150, 823] (by decide +kernel) (by decide +kernel)
theorem zc_238 : zt_238.all (zRowOk 238) = true := by decide +kernel
theorem zw_238 : ∀ w ∈ zt_238.flatMap (zNds 238), zWd w := zPls_ok2 [550, 73, 548, 549, 1154, 823] (by decide +kernel) (by decide +kernel)
theorem zc_239 : zt_239.all (zRowOk 239) = true := by decide +kernel
theorem zw_239 : ∀ w ∈ zt_239.flatMap (zNds 239), zWd w := zPls_ok2 [1161, 73, 1159, 1160, 1158, 824] (by decide +kernel) (by decide +kernel)
theorem zc_240 : zt_240.all (zRowOk 240) = true := by decide +kernel
theorem zw_240 : ∀ w ∈ zt_240.flatMap (zNds 240), zWd w := zPls_ok2 [1436, 73, 1434, 1435, 1433, 823] (by decide +kernel) (by decide +kernel)
theorem zc_241 : zt_241.all (zRowOk 241) = true := by decide +kernel
theorem zw_241 : ∀ w ∈ zt_241.flatMap (zNds 241), zWd w := zPls_ok2 [1444, 73, 1442, 1443, 1441, 823] (by decide +kernel) (by decide +kernel)
theorem zc_242 : zt_242.all (zRowOk 242) = true := by decide +kernel
theorem zw_242 : ∀ w ∈ zt_242.flatMap (zNds 242), zWd w := zPls_ok2 [1451, 73, 1449, 1450, 1448, 823] (by decide +kernel) (by decide +kernel)
theorem zc_243_0 : zt_243_0.all (zRowOk 243) = true := by decide +kernel
theorem zw_243_0 : ∀ w ∈ zt_243_0.flatMap (zNds 243), zWd w := zPls_ok2 [111, 112, 73, 115, 73, 114, 113, 1452, 1453, 84, 1456, 84, 1455, 1454, 817, 818, 88, 821, 88, 820, 819, 832, 72, 831, 830, 1548, 84, 1546, 1547, 1545, 841, 72, 840, 839, 1559, 84, 1557, 1558, 1556, 848, 72, 847, 846] (by decide +kernel) (by decide +kernel)

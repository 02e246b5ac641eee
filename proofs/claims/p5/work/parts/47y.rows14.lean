/-! ===== the check of the rows, group 14 ===== -/
theorem zc_260 : zt_260.all (zRowOk 260) = true := by decide +kernel
theorem zw_260 : ∀ w ∈ zt_260.flatMap (zNds 260), zWd w := zPls_ok2 [634, 635, 635, 636] (by decide +kernel) (by decide +kernel)
theorem zc_261 : zt_261.all (zRowOk 261) = true := by decide +kernel
theorem zw_261 : ∀ w ∈ zt_261.flatMap (zNds 261), zWd w := zPls_ok2 [] (by decide +kernel) (by decide +kernel)
theorem zc_262 : zt_262.all (zRowOk 262) = true := by decide +kernel
theorem zw_262 : ∀ w ∈ zt_262.flatMap (zNds 262), zWd w := zPls_ok2 [] (by decide +kernel) (by decide +kernel)
theorem zc_263 : zt_263.all (zRowOk 263) = true := by decide +kernel
theorem zw_263 : ∀ w ∈ zt_263.flatMap (zNds 263), zWd w := zPls_ok2 [1336, 105, 1335, 1334] (by decide +kernel) (by decide +kernel)
theorem zc_264 : zt_264.all (zRowOk 264) = true := by decide +kernel
theorem zw_264 : ∀ w ∈ zt_264.flatMap (zNds 264), zWd w := zPls_ok2 [1419, 1387, 105, 1385, 1386, 1384] (by decide +kernel) (by decide +kernel)
theorem zc_265 : zt_265.all (zRowOk 265) = true := by decide +kernel
theorem zw_265 : ∀ w ∈ zt_265.flatMap (zNds 265), zWd w := zPls_ok2 [1862, 105, 1860, 1861, 1859, 1419, 1865, 109, 1864, 1863, 1419, 1869, 108, 1868, 1867] (by decide +kernel) (by decide +kernel)
theorem zc_273 : zt_273.all (zRowOk 273) = true := by decide +kernel
theorem zw_273 : ∀ w ∈ zt_273.flatMap (zNds 273), zWd w := zPls_ok2 [1169, 106, 1168, 1167] (by decide +kernel) (by decide +kernel)
theorem zc_277 : zt_277.all (zRowOk 277) = true := by decide +kernel
theorem zw_277 : ∀ w ∈ zt_277.flatMap (zNds 277), zWd w := zPls_ok2 [1329, 1330, 105, 1333, 105, 1332, 1331] (by decide +kernel) (by decide +kernel)
theorem zc_279 : zt_279.all (zRowOk 279) = true := by decide +kernel
theorem zw_279 : ∀ w ∈ zt_279.flatMap (zNds 279), zWd w := zPls_ok2 [1284, 105, 1283, 1866] (by decide +kernel) (by decide +kernel)
theorem zc_280 : zt_280.all (zRowOk 280) = true := by decide +kernel
theorem zw_280 : ∀ w ∈ zt_280.flatMap (zNds 280), zWd w := zPls_ok2 [] (by decide +kernel) (by decide +kernel)
theorem zc_281 : zt_281.all (zRowOk 281) = true := by decide +kernel
theorem zw_281 : ∀ w ∈ zt_281.flatMap (zNds 281), zWd w := zPls_ok2 [1252, 108, 1251, 1250] (by decide +kernel) (by decide +kernel)
theorem zc_282 : zt_282.all (zRowOk 282) = true := by decide +kernel
theorem zw_282 : ∀ w ∈ zt_282.flatMap (zNds 282), zWd w := zPls_ok2 [1178, 108, 1177, 1176, 621] (by decide +kernel) (by decide +kernel)
theorem zc_286 : zt_286.all (zRowOk 286) = true := by decide +kernel
theorem zw_286 : ∀ w ∈ zt_286.flatMap (zNds 286), zWd w := zPls_ok2 [] (by decide +kernel) (by decide +kernel)
theorem zc_287 : zt_287.all (zRowOk 287) = true := by decide +kernel
theorem zw_287 : ∀ w ∈ zt_287.flatMap (zNds 287), zWd w := zPls_ok2 [] (by decide +kernel) (by decide +kernel)
theorem zc_288 : zt_288.all (zRowOk 288) = true := by decide +kernel
theorem zw_288 : ∀ w ∈ zt_288.flatMap (zNds 288), zWd w := zPls_ok2 [621, 1411, 108, 1410, 1409, 1178, 108, 1177, 1176, 1354, 100, 1353, 1415, 1414, 108, 1413, 1412, 1411, 108, 1410, 1409] (by decide +kernel) (by decide +kernel)
theorem zc_289 : zt_289.all (zRowOk 289) = true := by decide +kernel
theorem zw_289 : ∀ w ∈ zt_289.flatMap (zNds 289), zWd w := zPls_ok2 [1255, 108, 1254, 1253, 1414, 108, 1413, 1412] (by decide +kernel) (by decide +kernel)
theorem zc_290 : zt_290.all (zRowOk 290) = true := by decide +kernel
theorem zw_290 : ∀ w ∈ zt_290.flatMap (zNds 290), zWd w := zPls_ok2 [1281, 108, 1280, 1279, 1269, 108, 1268, 1267] (by decide +kernel) (by decide +kernel)
theorem zc_293 : zt_293.all (zRowOk 293) = true := by decide +kernel
theorem zw_293 : ∀ w ∈ zt_293.flatMap (zNds 293), zWd w := zPls_ok2 [1281, 108, 1280, 1279, 1414, 108, 1413, 1412] (by decide +kernel) (by decide +kernel)
theorem zc_294 : zt_294.all (zRowOk 294) = true := by decide +kernel
theorem zw_294 : ∀ w ∈ zt_294.flatMap (zNds 294), zWd w := zPls_ok2 [1255, 108, 1254, 1253, 1269, 108, 1268, 1267] (by decide +kernel) (by decide +kernel)
theorem zc_296 : zt_296.all (zRowOk 296) = true := by decide +kernel
theorem zw_296 : ∀ w ∈ zt_296.flatMap (zNds 296), zWd w := zPls_ok2 [1258, 108, 1257, 1256, 1284, 105, 1283, 1282] (by decide +kernel) (by decide +kernel)
theorem zc_297 : zt_297.all (zRowOk 297) = true := by decide +kernel
theorem zw_297 : ∀ w ∈ zt_297.flatMap (zNds 297), zWd w := zPls_ok2 [1258, 108, 1257, 1256, 1313, 105, 1312, 1311] (by decide +kernel) (by decide +kernel)
theorem zc_298 : zt_298.all (zRowOk 298) = true := by decide +kernel
theorem zw_298 : ∀ w ∈ zt_298.flatMap (zNds 298), zWd w := zPls_ok2 [1258, 108, 1257, 1256, 1261, 105, 1260, 1259] (by decide +kernel) (by decide +kernel)
theorem zc_299 : zt_299.all (zRowOk 299) = true := by decide +kernel
theorem zw_299 : ∀ w ∈ zt_299.flatMap (zNds 299), zWd w := zPls_ok2 [1470] (by decide +kernel) (by decide +kernel)
theorem zc_303 : zt_303.all (zRowOk 303) = true := by decide +kernel
theorem zw_303 : ∀ w ∈ zt_303.flatMap (zNds 303), zWd w := zPls_ok2 [1474, 1645, 87, 1644, 39, 1642] (by decide +kernel) (by decide +kernel)
theorem zc_304 : zt_304.all (zRowOk 304) = true := by decide +kernel
theorem zw_304 : ∀ w ∈ zt_304.flatMap (zNds 304), zWd w := zPls_ok2 [1474] (by decide +kernel) (by decide +kernel)
theorem zc_305 : zt_305.all (zRowOk 305) = true := by decide +kernel
theorem zw_305 : ∀ w ∈ zt_305.flatMap (zNds 305), zWd w := zPls_ok2 [1473] (by decide +kernel) (by decide +kernel)
theorem zc_306 : zt_306.all (zRowOk 306) = true := by decide +kernel
theorem zw_306 : ∀ w ∈ zt_306.flatMap (zNds 306), zWd w := zPls_ok2 [1474, 1703, 102, 1702, 1701, 1708, 87, 1706, 1707, 1705] (by decide +kernel) (by decide +kernel)
theorem zc_307 : zt_307.all (zRowOk 307) = true := by decide +kernel
theorem zw_307 : ∀ w ∈ zt_307.flatMap (zNds 307), zWd w := zPls_ok2 [1474, 1703, 102, 1702, 1701, 1708, 87, 1706, 1707, 1705, 1473] (by decide +kernel) (by decide +kernel)
theorem zc_308 : zt_308.all (zRowOk 308) = true := by decide +kernel
theorem zw_308 : ∀ w ∈ zt_308.flatMap (zNds 308), zWd w := zPls_ok2 [1641, 87, 1640, 38, 1638, 1474] (by decide +kernel) (by decide +kernel)
theorem zc_316 : zt_316.all (zRowOk 316) = true := by decide +kernel
theorem zw_316 : ∀ w ∈ zt_316.flatMap (zNds 316), zWd w := zPls_ok2 [1287, 103, 1286, 1704] (by decide +kernel) (by decide +kernel)
theorem zc_317 : zt_317.all (zRowOk 317) = true := by decide +kernel
theorem zw_317 : ∀ w ∈ zt_317.flatMap (zNds 317), zWd w := zPls_ok2 [681, 99, 680, 1215, 1216, 1219, 98, 1218, 1217] (by decide +kernel) (by decide +kernel)

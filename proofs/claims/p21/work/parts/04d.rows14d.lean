/-! ===== the check of the rows, more ===== -/
theorem zc_242 : zt_242.all (zRowOk 242) = true := zAll_app zc_242_0 (zAll_app zc_242_1 (zAll_app zc_242_2 (zAll_app zc_242_3 (zAll_app zc_242_4 (zAll_app zc_242_5 (zAll_app zc_242_6 (zAll_app zc_242_7 (zAll_app zc_242_8 (zAll_app zc_242_9 (zc_242_10))))))))))
theorem zw_242 : ∀ w ∈ zt_242.flatMap (zNds 242), zWd w := zFl_app zw_242_0 (zFl_app zw_242_1 (zFl_app zw_242_2 (zFl_app zw_242_3 (zFl_app zw_242_4 (zFl_app zw_242_5 (zFl_app zw_242_6 (zFl_app zw_242_7 (zFl_app zw_242_8 (zFl_app zw_242_9 (zw_242_10))))))))))
theorem zc_244 : zt_244.all (zRowOk 244) = true := by decide +kernel
theorem zw_244 : ∀ w ∈ zt_244.flatMap (zNds 244), zWd w := zPls_ok [1183] (by decide +kernel) (by decide +kernel)
theorem zc_252 : zt_252.all (zRowOk 252) = true := by decide +kernel
theorem zw_252 : ∀ w ∈ zt_252.flatMap (zNds 252), zWd w := zPls_ok [1180] (by decide +kernel) (by decide +kernel)
theorem zc_257 : zt_257.all (zRowOk 257) = true := by decide +kernel
theorem zw_257 : ∀ w ∈ zt_257.flatMap (zNds 257), zWd w := zPls_ok [] (by decide +kernel) (by decide +kernel)
theorem zc_258 : zt_258.all (zRowOk 258) = true := by decide +kernel
theorem zw_258 : ∀ w ∈ zt_258.flatMap (zNds 258), zWd w := zPls_ok [] (by decide +kernel) (by decide +kernel)
theorem zc_259 : zt_259.all (zRowOk 259) = true := by decide +kernel
theorem zw_259 : ∀ w ∈ zt_259.flatMap (zNds 259), zWd w := zPls_ok [634, 635, 635, 636] (by decide +kernel) (by decide +kernel)
theorem zc_260 : zt_260.all (zRowOk 260) = true := by decide +kernel
theorem zw_260 : ∀ w ∈ zt_260.flatMap (zNds 260), zWd w := zPls_ok [] (by decide +kernel) (by decide +kernel)
theorem zc_261 : zt_261.all (zRowOk 261) = true := by decide +kernel
theorem zw_261 : ∀ w ∈ zt_261.flatMap (zNds 261), zWd w := zPls_ok [] (by decide +kernel) (by decide +kernel)
theorem zc_262 : zt_262.all (zRowOk 262) = true := by decide +kernel
theorem zw_262 : ∀ w ∈ zt_262.flatMap (zNds 262), zWd w := zPls_ok [1336, 105, 1335, 1334] (by decide +kernel) (by decide +kernel)
theorem zc_263 : zt_263.all (zRowOk 263) = true := by decide +kernel
theorem zw_263 : ∀ w ∈ zt_263.flatMap (zNds 263), zWd w := zPls_ok [1419, 1387, 105, 1385, 1386, 1384] (by decide +kernel) (by decide +kernel)
theorem zc_264 : zt_264.all (zRowOk 264) = true := by decide +kernel
theorem zw_264 : ∀ w ∈ zt_264.flatMap (zNds 264), zWd w := zPls_ok [1858, 105, 1856, 1857, 1855, 1419, 1861, 109, 1860, 1859, 1419, 1865, 108, 1864, 1863] (by decide +kernel) (by decide +kernel)
theorem zc_272 : zt_272.all (zRowOk 272) = true := by decide +kernel
theorem zw_272 : ∀ w ∈ zt_272.flatMap (zNds 272), zWd w := zPls_ok [1169, 106, 1168, 1167] (by decide +kernel) (by decide +kernel)
theorem zc_276 : zt_276.all (zRowOk 276) = true := by decide +kernel
theorem zw_276 : ∀ w ∈ zt_276.flatMap (zNds 276), zWd w := zPls_ok [1329, 1330, 105, 1333, 105, 1332, 1331] (by decide +kernel) (by decide +kernel)
theorem zc_278 : zt_278.all (zRowOk 278) = true := by decide +kernel
theorem zw_278 : ∀ w ∈ zt_278.flatMap (zNds 278), zWd w := zPls_ok [1284, 105, 1283, 1862] (by decide +kernel) (by decide +kernel)
theorem zc_279 : zt_279.all (zRowOk 279) = true := by decide +kernel
theorem zw_279 : ∀ w ∈ zt_279.flatMap (zNds 279), zWd w := zPls_ok [] (by decide +kernel) (by decide +kernel)
theorem zc_280 : zt_280.all (zRowOk 280) = true := by decide +kernel
theorem zw_280 : ∀ w ∈ zt_280.flatMap (zNds 280), zWd w := zPls_ok [1252, 108, 1251, 1250] (by decide +kernel) (by decide +kernel)
theorem zc_281 : zt_281.all (zRowOk 281) = true := by decide +kernel
theorem zw_281 : ∀ w ∈ zt_281.flatMap (zNds 281), zWd w := zPls_ok [1178, 108, 1177, 1176, 621] (by decide +kernel) (by decide +kernel)
theorem zc_285 : zt_285.all (zRowOk 285) = true := by decide +kernel
theorem zw_285 : ∀ w ∈ zt_285.flatMap (zNds 285), zWd w := zPls_ok [] (by decide +kernel) (by decide +kernel)
theorem zc_286 : zt_286.all (zRowOk 286) = true := by decide +kernel
theorem zw_286 : ∀ w ∈ zt_286.flatMap (zNds 286), zWd w := zPls_ok [] (by decide +kernel) (by decide +kernel)
theorem zc_287 : zt_287.all (zRowOk 287) = true := by decide +kernel
theorem zw_287 : ∀ w ∈ zt_287.flatMap (zNds 287), zWd w := zPls_ok [621, 1411, 108, 1410, 1409, 1178, 108, 1177, 1176, 1354, 100, 1353, 1415, 1414, 108, 1413, 1412, 1411, 108, 1410, 1409] (by decide +kernel) (by decide +kernel)
theorem zc_288 : zt_288.all (zRowOk 288) = true := by decide +kernel
theorem zw_288 : ∀ w ∈ zt_288.flatMap (zNds 288), zWd w := zPls_ok [1255, 108, 1254, 1253, 1414, 108, 1413, 1412] (by decide +kernel) (by decide +kernel)
theorem zc_289 : zt_289.all (zRowOk 289) = true := by decide +kernel
theorem zw_289 : ∀ w ∈ zt_289.flatMap (zNds 289), zWd w := zPls_ok [1281, 108, 1280, 1279, 1269, 108, 1268, 1267] (by decide +kernel) (by decide +kernel)
theorem zc_292 : zt_292.all (zRowOk 292) = true := by decide +kernel
theorem zw_292 : ∀ w ∈ zt_292.flatMap (zNds 292), zWd w := zPls_ok [1281, 108, 1280, 1279, 1414, 108, 1413, 1412] (by decide +kernel) (by decide +kernel)
theorem zc_293 : zt_293.all (zRowOk 293) = true := by decide +kernel
theorem zw_293 : ∀ w ∈ zt_293.flatMap (zNds 293), zWd w := zPls_ok [1255, 108, 1254, 1253, 1269, 108, 1268, 1267] (by decide +kernel) (by decide +kernel)
theorem zc_295 : zt_295.all (zRowOk 295) = true := by decide +kernel
theorem zw_295 : ∀ w ∈ zt_295.flatMap (zNds 295), zWd w := zPls_ok [1258, 108, 1257, 1256, 1284, 105, 1283, 1282] (by decide +kernel) (by decide +kernel)
theorem zc_296 : zt_296.all (zRowOk 296) = true := by decide +kernel
theorem zw_296 : ∀ w ∈ zt_296.flatMap (zNds 296), zWd w := zPls_ok [1258, 108, 1257, 1256, 1313, 105, 1312, 1311] (by decide +kernel) (by decide +kernel)

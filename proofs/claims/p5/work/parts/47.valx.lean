/-! ===== the check of the rows that were left out ===== -/
theorem zxv_88_104 (l : Launch) : zVr l zi 88 104 (.ddiv) 0 5000 := ⟨zDcd_ok (by decide +kernel), fun w h => nomatch (show w ∈ ([] : List Cond) from h)⟩
theorem zxv_95_252 (l : Launch) : zVr l zi 95 252 (.dmul) 0 5000 := ⟨zDcd_ok (by decide +kernel), fun w h => nomatch (show w ∈ ([] : List Cond) from h)⟩
theorem zxc_129 : zo_129.all (zRowOk 129) = true := by decide +kernel
theorem zxw_129 : ∀ w ∈ zo_129.flatMap (zNds 129), zWd w := zPls_ok [1457, 180, 1490, 1458, 120, 180, 1491, 180, 1492, 1459, 1460, 87, 1463, 87, 1462, 1461, 1493, 1459, 1460, 87, 1463, 87, 1462, 1461, 1494, 1459, 1460, 87, 1463, 87, 1462, 1461, 1495, 1496, 1458, 120, 180, 1497, 1458, 120, 180, 1498, 180, 1499, 180, 1500, 180, 1501, 1490, 1491, 1497] (by decide +kernel) (by decide +kernel)
theorem zxb_129 : zo_129.all (fun x => decide (x.2.2.2 < 5000) && !(zKd x.2.1 x.2.2.1 x.2.2.2 == 5)) = true := by decide +kernel
theorem zxv_129_65 (l : Launch) : zVr l zi 129 65 (.ldc 34) 1 3 := ⟨zDcd_ok (by decide +kernel), zCst_st (by decide +kernel)⟩
theorem zxc_161 : zo_161.all (zRowOk 161) = true := by decide +kernel
theorem zxw_161 : ∀ w ∈ zo_161.flatMap (zNds 161), zWd w := zPls_ok [1486, 1495, 1577, 87, 1575, 1573, 1569, 1555, 84, 1554, 36, 1552, 1495, 1577, 87, 1575, 1573, 1569, 1792, 84, 1791, 41, 1789, 1496, 1503, 1495, 1633, 87, 1631, 1629, 1626, 1495, 1577, 87, 1575, 1573, 1569] (by decide +kernel) (by decide +kernel)
theorem zxb_161 : zo_161.all (fun x => decide (x.2.2.2 < 5000) && !(zKd x.2.1 x.2.2.1 x.2.2.2 == 5)) = true := by decide +kernel
theorem zxv_161_40 (l : Launch) : zVr l zi 161 40 (.ldc 34) 1 3 := ⟨zDcd_ok (by decide +kernel), zCst_st (by decide +kernel)⟩
theorem zxc_162 : zo_162.all (zRowOk 162) = true := by decide +kernel
theorem zxw_162 : ∀ w ∈ zo_162.flatMap (zNds 162), zWd w := zPls_ok [1486, 1896, 84, 1895, 48, 1893, 1555, 84, 1554, 36, 1552, 1900, 84, 1899, 49, 1897, 1555, 84, 1554, 36, 1552, 1792, 84, 1791, 41, 1789, 1496, 1503, 1495, 1909, 87, 1907, 1905, 1902] (by decide +kernel) (by decide +kernel)
theorem zxb_162 : zo_162.all (fun x => decide (x.2.2.2 < 5000) && !(zKd x.2.1 x.2.2.1 x.2.2.2 == 5)) = true := by decide +kernel
theorem zxv_162_56 (l : Launch) : zVr l zi 162 56 (.ldc 34) 1 3 := ⟨zDcd_ok (by decide +kernel), zCst_st (by decide +kernel)⟩
theorem zxv_197_167 (l : Launch) : zVr l zi 197 167 (.ddiv) 0 5000 := ⟨zDcd_ok (by decide +kernel), fun w h => nomatch (show w ∈ ([] : List Cond) from h)⟩
theorem zxc_201 : zo_201.all (zRowOk 201) = true := by decide +kernel
theorem zxw_201 : ∀ w ∈ zo_201.flatMap (zNds 201), zWd w := zPls_ok [1486, 1896, 84, 1895, 48, 1893, 1486, 1495, 1700, 87, 1698, 1696, 1693, 1793, 1780, 1163, 107, 1166, 107, 1165, 1781, 1200, 107, 1198, 1199, 1783, 1800, 1291, 107, 1289, 1290, 2134, 1200, 107, 1198, 1199, 1783, 1802, 1722, 84, 1721, 1720, 1291, 107, 1289, 1290, 2134, 1804, 1722, 84, 1721, 1720, 1200, 107, 1198, 1199, 1783, 1291, 107, 1289, 1290, 2134, 1806, 1722, 84, 1721, 1720, 1200, 107, 1198, 1199, 1783, 1291, 107, 1289, 1290, 2134, 1812, 1808, 1200, 107, 1198, 1199, 1783, 1810, 1291, 107, 1289, 1290, 2134, 1200, 107, 1198, 1199, 1783, 1813, 1813, 1291, 107, 1289, 1290, 2134, 1813, 1200, 107, 1198, 1199, 1783, 1200, 107, 1198, 1199, 1783, 1813, 1291, 107, 1289, 1290, 2134, 1815, 1200, 107, 1198, 1199, 1783, 1815, 1291, 107, 1289, 1290, 2134, 1328, 107, 1326, 1327, 1784] (by decide +kernel) (by decide +kernel)
theorem zxb_201 : zo_201.all (fun x => decide (x.2.2.2 < 5000) && !(zKd x.2.1 x.2.2.1 x.2.2.2 == 5)) = true := by decide +kernel
theorem zxv_201_18 (l : Launch) : zVr l zi 201 18 (.ldc 34) 1 3 := ⟨zDcd_ok (by decide +kernel), zCst_st (by decide +kernel)⟩
theorem zxv_207_518 (l : Launch) : zVr l zi 207 518 (.dmul) 0 5000 := ⟨zDcd_ok (by decide +kernel), fun w h => nomatch (show w ∈ ([] : List Cond) from h)⟩
theorem zxc_244 : zo_244.all (zRowOk 244) = true := by decide +kernel
theorem zxw_244 : ∀ w ∈ zo_244.flatMap (zNds 244), zWd w := zPls_ok [1170, 621, 1180, 1181, 1175, 108, 1174, 1173, 1180, 1181] (by decide +kernel) (by decide +kernel)
theorem zxb_244 : zo_244.all (fun x => decide (x.2.2.2 < 5000) && !(zKd x.2.1 x.2.2.1 x.2.2.2 == 5)) = true := by decide +kernel
theorem zxv_244_4 (l : Launch) : zVr l zi 244 4 (.getstatic 18) 1 0 := ⟨zDcd_ok (by decide +kernel), zCst_gz (zPls_ok (l := [_]) [1171] (by decide +kernel) (by decide +kernel) _ List.mem_cons_self)⟩
theorem zxc_246 : zo_246.all (zRowOk 246) = true := by decide +kernel
theorem zxw_246 : ∀ w ∈ zo_246.flatMap (zNds 246), zWd w := zPls_ok [1180, 1181, 1180, 1181, 1223, 100, 1222, 1221, 1180] (by decide +kernel) (by decide +kernel)
theorem zxb_246 : zo_246.all (fun x => decide (x.2.2.2 < 5000) && !(zKd x.2.1 x.2.2.1 x.2.2.2 == 5)) = true := by decide +kernel
theorem zxv_246_24 (l : Launch) : zVr l zi 246 24 (.invokevirtual 104) 247 20 := ⟨zDcd_ok (by decide +kernel), zSite_VP (n := 1) (by decide) (by decide +kernel) (by decide +kernel) (by decide +kernel) (zWd_T (zPls_ok (l := [_]) [1211] (by decide +kernel) (by decide +kernel) _ List.mem_cons_self) rfl) (zWd_T (zPls_ok (l := [_]) [106] (by decide +kernel) (by decide +kernel) _ List.mem_cons_self) rfl) (zWd_T (zPls_ok (l := [_]) [1210] (by decide +kernel) (by decide +kernel) _ List.mem_cons_self) rfl) (zWd_T (zPls_ok (l := [_]) [1238] (by decide +kernel) (by decide +kernel) _ List.mem_cons_self) rfl) (zPls_ok (l := [_]) [1209] (by decide +kernel) (by decide +kernel) _ List.mem_cons_self) (zWd_T (zPls_ok (l := [_]) [1208] (by decide +kernel) (by decide +kernel) _ List.mem_cons_self) rfl) (by decide +kernel) (by decide +kernel)⟩
theorem zxc_247 : zo_247.all (zRowOk 247) = true := by decide +kernel
theorem zxw_247 : ∀ w ∈ zo_247.flatMap (zNds 247), zWd w := zPls_ok [1180, 1181, 1181, 1214, 98, 1213, 1212, 1220, 1181] (by decide +kernel) (by decide +kernel)
theorem zxb_247 : zo_247.all (fun x => decide (x.2.2.2 < 5000) && !(zKd x.2.1 x.2.2.1 x.2.2.2 == 5)) = true := by decide +kernel
theorem zxc_248 : zo_248.all (zRowOk 248) = true := by decide +kernel
theorem zxw_248 : ∀ w ∈ zo_248.flatMap (zNds 248), zWd w := zPls_ok [1239, 106, 1236, 1238, 1235, 1180, 1175, 108, 1174, 1173, 1180, 1183, 1249, 109, 1248, 1247, 1180, 1181] (by decide +kernel) (by decide +kernel)
theorem zxb_248 : zo_248.all (fun x => decide (x.2.2.2 < 5000) && !(zKd x.2.1 x.2.2.1 x.2.2.2 == 5)) = true := by decide +kernel
theorem zxc_249 : zo_249.all (zRowOk 249) = true := by decide +kernel
theorem zxw_249 : ∀ w ∈ zo_249.flatMap (zNds 249), zWd w := zPls_ok [1383, 105, 1381, 1382, 1380, 1183, 1183, 1183, 1183] (by decide +kernel) (by decide +kernel)
theorem zxb_249 : zo_249.all (fun x => decide (x.2.2.2 < 5000) && !(zKd x.2.1 x.2.2.1 x.2.2.2 == 5)) = true := by decide +kernel
theorem zxv_249_1 (l : Launch) : zVr l zi 249 1 (.ifnonnull 8) 0 5000 := ⟨zDcd_ok (by decide +kernel), fun w h => nomatch (show w ∈ ([] : List Cond) from h)⟩
theorem zxv_249_5 (l : Launch) : zVr l zi 249 5 (.invokevirtual 204) 250 20 := ⟨zDcd_ok (by decide +kernel), zSite_VP (n := 0) (by decide) (by decide +kernel) (by decide +kernel) (by decide +kernel) (zWd_T (zPls_ok (l := [_]) [1376] (by decide +kernel) (by decide +kernel) _ List.mem_cons_self) rfl) (zWd_T (zPls_ok (l := [_]) [106] (by decide +kernel) (by decide +kernel) _ List.mem_cons_self) rfl) (zWd_T (zPls_ok (l := [_]) [1375] (by decide +kernel) (by decide +kernel) _ List.mem_cons_self) rfl) (zWd_T (zPls_ok (l := [_]) [1238] (by decide +kernel) (by decide +kernel) _ List.mem_cons_self) rfl) (zPls_ok (l := [_]) [1374] (by decide +kernel) (by decide +kernel) _ List.mem_cons_self) (zWd_T (zPls_ok (l := [_]) [1373] (by decide +kernel) (by decide +kernel) _ List.mem_cons_self) rfl) (by decide +kernel) (by decide +kernel)⟩
theorem zxv_249_21 (l : Launch) : zVr l zi 249 21 (.invokevirtual 100) 246 20 := ⟨zDcd_ok (by decide +kernel), zSite_VP (n := 1) (by decide) (by decide +kernel) (by decide +kernel) (by decide +kernel) (zWd_T (zPls_ok (l := [_]) [1207] (by decide +kernel) (by decide +kernel) _ List.mem_cons_self) rfl) (zWd_T (zPls_ok (l := [_]) [106] (by decide +kernel) (by decide +kernel) _ List.mem_cons_self) rfl) (zWd_T (zPls_ok (l := [_]) [1206] (by decide +kernel) (by decide +kernel) _ List.mem_cons_self) rfl) (zWd_T (zPls_ok (l := [_]) [1238] (by decide +kernel) (by decide +kernel) _ List.mem_cons_self) rfl) (zPls_ok (l := [_]) [1205] (by decide +kernel) (by decide +kernel) _ List.mem_cons_self) (zWd_T (zPls_ok (l := [_]) [1204] (by decide +kernel) (by decide +kernel) _ List.mem_cons_self) rfl) (by decide +kernel) (by decide +kernel)⟩
theorem zxv_249_30 (l : Launch) : zVr l zi 249 30 (.invokevirtual 208) 256 20 := ⟨zDcd_ok (by decide +kernel), zSite_VP (n := 2) (by decide) (by decide +kernel) (by decide +kernel) (by decide +kernel) (zWd_T (zPls_ok (l := [_]) [1392] (by decide +kernel) (by decide +kernel) _ List.mem_cons_self) rfl) (zWd_T (zPls_ok (l := [_]) [106] (by decide +kernel) (by decide +kernel) _ List.mem_cons_self) rfl) (zWd_T (zPls_ok (l := [_]) [1391] (by decide +kernel) (by decide +kernel) _ List.mem_cons_self) rfl) (zWd_T (zPls_ok (l := [_]) [1238] (by decide +kernel) (by decide +kernel) _ List.mem_cons_self) rfl) (zPls_ok (l := [_]) [1390] (by decide +kernel) (by decide +kernel) _ List.mem_cons_self) (zWd_T (zPls_ok (l := [_]) [1389] (by decide +kernel) (by decide +kernel) _ List.mem_cons_self) rfl) (by decide +kernel) (by decide +kernel)⟩
theorem zxc_250 : zo_250.all (zRowOk 250) = true := by decide +kernel
theorem zxw_250 : ∀ w ∈ zo_250.flatMap (zNds 250), zWd w := zPls_ok [1183, 1183, 1180, 1239, 106, 1236, 1238, 1235, 1379, 108, 1378, 1377, 1183] (by decide +kernel) (by decide +kernel)
theorem zxb_250 : zo_250.all (fun x => decide (x.2.2.2 < 5000) && !(zKd x.2.1 x.2.2.1 x.2.2.2 == 5)) = true := by decide +kernel
theorem zxv_250_7 (l : Launch) : zVr l zi 250 7 (.invokevirtual 100) 246 20 := ⟨zDcd_ok (by decide +kernel), zSite_VP (n := 1) (by decide) (by decide +kernel) (by decide +kernel) (by decide +kernel) (zWd_T (zPls_ok (l := [_]) [1207] (by decide +kernel) (by decide +kernel) _ List.mem_cons_self) rfl) (zWd_T (zPls_ok (l := [_]) [106] (by decide +kernel) (by decide +kernel) _ List.mem_cons_self) rfl) (zWd_T (zPls_ok (l := [_]) [1206] (by decide +kernel) (by decide +kernel) _ List.mem_cons_self) rfl) (zWd_T (zPls_ok (l := [_]) [1238] (by decide +kernel) (by decide +kernel) _ List.mem_cons_self) rfl) (zPls_ok (l := [_]) [1205] (by decide +kernel) (by decide +kernel) _ List.mem_cons_self) (zWd_T (zPls_ok (l := [_]) [1204] (by decide +kernel) (by decide +kernel) _ List.mem_cons_self) rfl) (by decide +kernel) (by decide +kernel)⟩
theorem zxc_251 : zo_251.all (zRowOk 251) = true := by decide +kernel
theorem zxw_251 : ∀ w ∈ zo_251.flatMap (zNds 251), zWd w := zPls_ok [1183, 1239, 106, 1236, 1238, 1235, 1242, 109, 1241, 1240, 1180, 1183, 1183, 1239, 106, 1236, 1238, 1235, 1180, 1183, 1183, 1278, 108, 1277, 1276] (by decide +kernel) (by decide +kernel)
theorem zxb_251 : zo_251.all (fun x => decide (x.2.2.2 < 5000) && !(zKd x.2.1 x.2.2.1 x.2.2.2 == 5)) = true := by decide +kernel
theorem zxv_251_7 (l : Launch) : zVr l zi 251 7 (.invokevirtual 100) 246 20 := ⟨zDcd_ok (by decide +kernel), zSite_VP (n := 1) (by decide) (by decide +kernel) (by decide +kernel) (by decide +kernel) (zWd_T (zPls_ok (l := [_]) [1207] (by decide +kernel) (by decide +kernel) _ List.mem_cons_self) rfl) (zWd_T (zPls_ok (l := [_]) [106] (by decide +kernel) (by decide +kernel) _ List.mem_cons_self) rfl) (zWd_T (zPls_ok (l := [_]) [1206] (by decide +kernel) (by decide +kernel) _ List.mem_cons_self) rfl) (zWd_T (zPls_ok (l := [_]) [1238] (by decide +kernel) (by decide +kernel) _ List.mem_cons_self) rfl) (zPls_ok (l := [_]) [1205] (by decide +kernel) (by decide +kernel) _ List.mem_cons_self) (zWd_T (zPls_ok (l := [_]) [1204] (by decide +kernel) (by decide +kernel) _ List.mem_cons_self) rfl) (by decide +kernel) (by decide +kernel)⟩
theorem zxv_251_53 (l : Launch) : zVr l zi 251 53 (.invokevirtual 195) 248 20 := ⟨zDcd_ok (by decide +kernel), zSite_VP (n := 0) (by decide) (by decide +kernel) (by decide +kernel) (by decide +kernel) (zWd_T (zPls_ok (l := [_]) [1246] (by decide +kernel) (by decide +kernel) _ List.mem_cons_self) rfl) (zWd_T (zPls_ok (l := [_]) [106] (by decide +kernel) (by decide +kernel) _ List.mem_cons_self) rfl) (zWd_T (zPls_ok (l := [_]) [1245] (by decide +kernel) (by decide +kernel) _ List.mem_cons_self) rfl) (zWd_T (zPls_ok (l := [_]) [1238] (by decide +kernel) (by decide +kernel) _ List.mem_cons_self) rfl) (zPls_ok (l := [_]) [1244] (by decide +kernel) (by decide +kernel) _ List.mem_cons_self) (zWd_T (zPls_ok (l := [_]) [1243] (by decide +kernel) (by decide +kernel) _ List.mem_cons_self) rfl) (by decide +kernel) (by decide +kernel)⟩
theorem zxc_252 : zo_252.all (zRowOk 252) = true := by decide +kernel
theorem zxw_252 : ∀ w ∈ zo_252.flatMap (zNds 252), zWd w := zPls_ok [1183, 1297, 96, 1296, 1295, 1239, 106, 1236, 1238, 1235, 1180, 1300, 96, 1299, 1298, 1180, 1307, 108, 1306, 1305, 1183] (by decide +kernel) (by decide +kernel)
theorem zxb_252 : zo_252.all (fun x => decide (x.2.2.2 < 5000) && !(zKd x.2.1 x.2.2.1 x.2.2.2 == 5)) = true := by decide +kernel
theorem zxv_252_14 (l : Launch) : zVr l zi 252 14 (.invokevirtual 100) 246 20 := ⟨zDcd_ok (by decide +kernel), zSite_VP (n := 1) (by decide) (by decide +kernel) (by decide +kernel) (by decide +kernel) (zWd_T (zPls_ok (l := [_]) [1207] (by decide +kernel) (by decide +kernel) _ List.mem_cons_self) rfl) (zWd_T (zPls_ok (l := [_]) [106] (by decide +kernel) (by decide +kernel) _ List.mem_cons_self) rfl) (zWd_T (zPls_ok (l := [_]) [1206] (by decide +kernel) (by decide +kernel) _ List.mem_cons_self) rfl) (zWd_T (zPls_ok (l := [_]) [1238] (by decide +kernel) (by decide +kernel) _ List.mem_cons_self) rfl) (zPls_ok (l := [_]) [1205] (by decide +kernel) (by decide +kernel) _ List.mem_cons_self) (zWd_T (zPls_ok (l := [_]) [1204] (by decide +kernel) (by decide +kernel) _ List.mem_cons_self) rfl) (by decide +kernel) (by decide +kernel)⟩
theorem zxc_254 : zo_254.all (zRowOk 254) = true := by decide +kernel
theorem zxw_254 : ∀ w ∈ zo_254.flatMap (zNds 254), zWd w := zPls_ok [1181] (by decide +kernel) (by decide +kernel)
theorem zxb_254 : zo_254.all (fun x => decide (x.2.2.2 < 5000) && !(zKd x.2.1 x.2.2.1 x.2.2.2 == 5)) = true := by decide +kernel
theorem zxv_254_0 (l : Launch) : zVr l zi 254 0 (.getstatic 18) 1 0 := ⟨zDcd_ok (by decide +kernel), zCst_gz (zPls_ok (l := [_]) [1171] (by decide +kernel) (by decide +kernel) _ List.mem_cons_self)⟩
theorem zxc_255 : zo_255.all (zRowOk 255) = true := by decide +kernel
theorem zxw_255 : ∀ w ∈ zo_255.flatMap (zNds 255), zWd w := zPls_ok [1181, 1387, 105, 1385, 1386, 1397] (by decide +kernel) (by decide +kernel)
theorem zxb_255 : zo_255.all (fun x => decide (x.2.2.2 < 5000) && !(zKd x.2.1 x.2.2.1 x.2.2.2 == 5)) = true := by decide +kernel
theorem zxv_255_0 (l : Launch) : zVr l zi 255 0 (.getstatic 18) 1 0 := ⟨zDcd_ok (by decide +kernel), zCst_gz (zPls_ok (l := [_]) [1171] (by decide +kernel) (by decide +kernel) _ List.mem_cons_self)⟩
theorem zxv_255_18 (l : Launch) : zVr l zi 255 18 (.invokevirtual 195) 248 20 := ⟨zDcd_ok (by decide +kernel), zSite_VP (n := 0) (by decide) (by decide +kernel) (by decide +kernel) (by decide +kernel) (zWd_T (zPls_ok (l := [_]) [1246] (by decide +kernel) (by decide +kernel) _ List.mem_cons_self) rfl) (zWd_T (zPls_ok (l := [_]) [106] (by decide +kernel) (by decide +kernel) _ List.mem_cons_self) rfl) (zWd_T (zPls_ok (l := [_]) [1245] (by decide +kernel) (by decide +kernel) _ List.mem_cons_self) rfl) (zWd_T (zPls_ok (l := [_]) [1238] (by decide +kernel) (by decide +kernel) _ List.mem_cons_self) rfl) (zPls_ok (l := [_]) [1244] (by decide +kernel) (by decide +kernel) _ List.mem_cons_self) (zWd_T (zPls_ok (l := [_]) [1243] (by decide +kernel) (by decide +kernel) _ List.mem_cons_self) rfl) (by decide +kernel) (by decide +kernel)⟩
theorem zxc_256 : zo_256.all (zRowOk 256) = true := by decide +kernel
theorem zxw_256 : ∀ w ∈ zo_256.flatMap (zNds 256), zWd w := zPls_ok [1180, 1181, 1401, 105, 1399, 1400, 1398] (by decide +kernel) (by decide +kernel)
theorem zxb_256 : zo_256.all (fun x => decide (x.2.2.2 < 5000) && !(zKd x.2.1 x.2.2.1 x.2.2.2 == 5)) = true := by decide +kernel
theorem zxv_256_2 (l : Launch) : zVr l zi 256 2 (.invokevirtual 397) 255 20 := ⟨zDcd_ok (by decide +kernel), zSite_VP (n := 1) (by decide) (by decide +kernel) (by decide +kernel) (by decide +kernel) (zWd_T (zPls_ok (l := [_]) [1396] (by decide +kernel) (by decide +kernel) _ List.mem_cons_self) rfl) (zWd_T (zPls_ok (l := [_]) [106] (by decide +kernel) (by decide +kernel) _ List.mem_cons_self) rfl) (zWd_T (zPls_ok (l := [_]) [1395] (by decide +kernel) (by decide +kernel) _ List.mem_cons_self) rfl) (zWd_T (zPls_ok (l := [_]) [1238] (by decide +kernel) (by decide +kernel) _ List.mem_cons_self) rfl) (zPls_ok (l := [_]) [1394] (by decide +kernel) (by decide +kernel) _ List.mem_cons_self) (zWd_T (zPls_ok (l := [_]) [1393] (by decide +kernel) (by decide +kernel) _ List.mem_cons_self) rfl) (by decide +kernel) (by decide +kernel)⟩
theorem zxc_257 : zo_257.all (zRowOk 257) = true := by decide +kernel
theorem zxw_257 : ∀ w ∈ zo_257.flatMap (zNds 257), zWd w := zPls_ok [] (by decide +kernel) (by decide +kernel)
theorem zxb_257 : zo_257.all (fun x => decide (x.2.2.2 < 5000) && !(zKd x.2.1 x.2.2.1 x.2.2.2 == 5)) = true := by decide +kernel
theorem zxv_257_49 (l : Launch) : zVr l zi 257 49 (.getstatic 83) 6 3 := ⟨zDcd_ok (by decide +kernel), zCst_g6 (zPls_ok (l := [_]) [1301] (by decide +kernel) (by decide +kernel) _ List.mem_cons_self)⟩
theorem zxv_257_62 (l : Launch) : zVr l zi 257 62 (.getstatic 87) 5 3 := ⟨zDcd_ok (by decide +kernel), zCst_g5 (zPls_ok (l := [_]) [1303] (by decide +kernel) (by decide +kernel) _ List.mem_cons_self)⟩
theorem zxv_257_78 (l : Launch) : zVr l zi 257 78 (.getstatic 83) 6 3 := ⟨zDcd_ok (by decide +kernel), zCst_g6 (zPls_ok (l := [_]) [1301] (by decide +kernel) (by decide +kernel) _ List.mem_cons_self)⟩
theorem zxv_257_97 (l : Launch) : zVr l zi 257 97 (.getstatic 87) 5 3 := ⟨zDcd_ok (by decide +kernel), zCst_g5 (zPls_ok (l := [_]) [1303] (by decide +kernel) (by decide +kernel) _ List.mem_cons_self)⟩
theorem zxc_266 : zo_266.all (zRowOk 266) = true := by decide +kernel
theorem zxw_266 : ∀ w ∈ zo_266.flatMap (zNds 266), zWd w := zPls_ok [1387, 105, 1385, 1386, 1384, 1419, 1419, 1419, 1419, 1249, 109, 1248, 1403] (by decide +kernel) (by decide +kernel)
theorem zxb_266 : zo_266.all (fun x => decide (x.2.2.2 < 5000) && !(zKd x.2.1 x.2.2.1 x.2.2.2 == 5)) = true := by decide +kernel
theorem zxv_266_22 (l : Launch) : zVr l zi 266 22 (.invokestatic 212) 0 5000 := ⟨zDcd_ok (by decide +kernel), zPls_ok [1402, 1234, 1233, 101] (by decide +kernel) (by decide +kernel)⟩
theorem zxc_267 : zo_267.all (zRowOk 267) = true := by decide +kernel
theorem zxw_267 : ∀ w ∈ zo_267.flatMap (zNds 267), zWd w := zPls_ok [1337, 1342, 106, 1339, 1341, 1338, 1239, 106, 1236, 1238, 1351, 1420, 1354, 100, 1353, 1352, 1419, 1182, 1408, 108, 1407, 1406, 1419, 1419, 1418, 108, 1417, 1416, 1420, 1420, 1354, 100, 1353, 1352, 1419] (by decide +kernel) (by decide +kernel)
theorem zxb_267 : zo_267.all (fun x => decide (x.2.2.2 < 5000) && !(zKd x.2.1 x.2.2.1 x.2.2.2 == 5)) = true := by decide +kernel
theorem zxv_267_10 (l : Launch) : zVr l zi 267 10 (.invokevirtual 549) 278 20 := ⟨zDcd_ok (by decide +kernel), zSite_VO (by decide) (by decide +kernel) (by decide +kernel) (zWd_T (zPls_ok (l := [.code ⟨"java/lang/StringBuilder", "length", "()I"⟩ prog_34_method_93_code 1 (some .int)]) [1348] (by decide +kernel) (by decide +kernel) _ List.mem_cons_self) rfl) (zWd_T (zPls_ok (l := [_]) [107] (by decide +kernel) (by decide +kernel) _ List.mem_cons_self) rfl) (zWd_T (zPls_ok (l := [_]) [1347] (by decide +kernel) (by decide +kernel) _ List.mem_cons_self) rfl) (zWd_T (zPls_ok (l := [.code ⟨"java/lang/AbstractStringBuilder", "length", "()I"⟩ prog_19_method_6_code 1 (some .int)]) [1350] (by decide +kernel) (by decide +kernel) _ List.mem_cons_self) rfl) (zWd_T (zPls_ok (l := [_]) [1344] (by decide +kernel) (by decide +kernel) _ List.mem_cons_self) rfl) (zWd_T (zPls_ok (l := [_]) [1346] (by decide +kernel) (by decide +kernel) _ List.mem_cons_self) rfl) (zWd_T (zPls_ok (l := [_]) [1345] (by decide +kernel) (by decide +kernel) _ List.mem_cons_self) rfl) (zWd_T (zPls_ok (l := [_]) [1343] (by decide +kernel) (by decide +kernel) _ List.mem_cons_self) rfl) rfl (by decide +kernel)⟩
theorem zxv_267_41 (l : Launch) : zVr l zi 267 41 (.getstatic 38) 1 0 := ⟨zDcd_ok (by decide +kernel), zCst_gz (zPls_ok (l := [_]) [1388] (by decide +kernel) (by decide +kernel) _ List.mem_cons_self)⟩
theorem zxc_268 : zo_268.all (zRowOk 268) = true := by decide +kernel
theorem zxw_268 : ∀ w ∈ zo_268.flatMap (zNds 268), zWd w := zPls_ok [1420] (by decide +kernel) (by decide +kernel)
theorem zxb_268 : zo_268.all (fun x => decide (x.2.2.2 < 5000) && !(zKd x.2.1 x.2.2.1 x.2.2.2 == 5)) = true := by decide +kernel
theorem zxv_268_0 (l : Launch) : zVr l zi 268 0 (.getstatic 38) 1 0 := ⟨zDcd_ok (by decide +kernel), zCst_gz (zPls_ok (l := [_]) [1388] (by decide +kernel) (by decide +kernel) _ List.mem_cons_self)⟩
theorem zxc_269 : zo_269.all (zRowOk 269) = true := by decide +kernel
theorem zxw_269 : ∀ w ∈ zo_269.flatMap (zNds 269), zWd w := zPls_ok [1420] (by decide +kernel) (by decide +kernel)
theorem zxb_269 : zo_269.all (fun x => decide (x.2.2.2 < 5000) && !(zKd x.2.1 x.2.2.1 x.2.2.2 == 5)) = true := by decide +kernel
theorem zxv_269_0 (l : Launch) : zVr l zi 269 0 (.getstatic 38) 1 0 := ⟨zDcd_ok (by decide +kernel), zCst_gz (zPls_ok (l := [_]) [1388] (by decide +kernel) (by decide +kernel) _ List.mem_cons_self)⟩
theorem zxc_270 : zo_270.all (zRowOk 270) = true := by decide +kernel
theorem zxw_270 : ∀ w ∈ zo_270.flatMap (zNds 270), zWd w := zPls_ok [1287, 103, 1286, 1285] (by decide +kernel) (by decide +kernel)
theorem zxb_270 : zo_270.all (fun x => decide (x.2.2.2 < 5000) && !(zKd x.2.1 x.2.2.1 x.2.2.2 == 5)) = true := by decide +kernel
theorem zxv_270_2 (l : Launch) : zVr l zi 270 2 (.getstatic 1053) 0 5000 := ⟨zDcd_ok (by decide +kernel), zPls_ok [1262] (by decide +kernel) (by decide +kernel)⟩
theorem zxc_271 : zo_271.all (zRowOk 271) = true := by decide +kernel
theorem zxw_271 : ∀ w ∈ zo_271.flatMap (zNds 271), zWd w := zPls_ok [1266, 103, 1265, 1264] (by decide +kernel) (by decide +kernel)
theorem zxb_271 : zo_271.all (fun x => decide (x.2.2.2 < 5000) && !(zKd x.2.1 x.2.2.1 x.2.2.2 == 5)) = true := by decide +kernel
theorem zxv_271_3 (l : Launch) : zVr l zi 271 3 (.getstatic 1053) 0 5000 := ⟨zDcd_ok (by decide +kernel), zPls_ok [1262] (by decide +kernel) (by decide +kernel)⟩
theorem zxc_272 : zo_272.all (zRowOk 272) = true := by decide +kernel
theorem zxw_272 : ∀ w ∈ zo_272.flatMap (zNds 272), zWd w := zPls_ok [1316, 103, 1315, 1314] (by decide +kernel) (by decide +kernel)
theorem zxb_272 : zo_272.all (fun x => decide (x.2.2.2 < 5000) && !(zKd x.2.1 x.2.2.1 x.2.2.2 == 5)) = true := by decide +kernel
theorem zxv_272_3 (l : Launch) : zVr l zi 272 3 (.getstatic 1053) 0 5000 := ⟨zDcd_ok (by decide +kernel), zPls_ok [1262] (by decide +kernel) (by decide +kernel)⟩
theorem zxc_274 : zo_274.all (zRowOk 274) = true := by decide +kernel
theorem zxw_274 : ∀ w ∈ zo_274.flatMap (zNds 274), zWd w := zPls_ok [] (by decide +kernel) (by decide +kernel)
theorem zxb_274 : zo_274.all (fun x => decide (x.2.2.2 < 5000) && !(zKd x.2.1 x.2.2.1 x.2.2.2 == 5)) = true := by decide +kernel
theorem zxv_274_2 (l : Launch) : zVr l zi 274 2 (.invokespecial 29) 249 20 := ⟨zDcd_ok (by decide +kernel), zSite_SU (n := 1) (by decide) (by decide +kernel) (zWd_T (zPls_ok (l := [_]) [1372] (by decide +kernel) (by decide +kernel) _ List.mem_cons_self) rfl) (zWd_T (zPls_ok (l := [_]) [106] (by decide +kernel) (by decide +kernel) _ List.mem_cons_self) rfl) (zWd_T (zPls_ok (l := [_]) [1371] (by decide +kernel) (by decide +kernel) _ List.mem_cons_self) rfl) (zWd_T (zPls_ok (l := [_]) [1370] (by decide +kernel) (by decide +kernel) _ List.mem_cons_self) rfl) (zWd_T (zPls_ok (l := [_]) [2168] (by decide +kernel) (by decide +kernel) _ List.mem_cons_self) rfl) (zWd_T (zPls_ok (l := [_]) [1192] (by decide +kernel) (by decide +kernel) _ List.mem_cons_self) rfl) (by decide) (by decide +kernel) (by decide +kernel)⟩
theorem zxc_275 : zo_275.all (zRowOk 275) = true := by decide +kernel
theorem zxw_275 : ∀ w ∈ zo_275.flatMap (zNds 275), zWd w := zPls_ok [] (by decide +kernel) (by decide +kernel)
theorem zxb_275 : zo_275.all (fun x => decide (x.2.2.2 < 5000) && !(zKd x.2.1 x.2.2.1 x.2.2.2 == 5)) = true := by decide +kernel
theorem zxv_275_2 (l : Launch) : zVr l zi 275 2 (.invokespecial 50) 251 20 := ⟨zDcd_ok (by decide +kernel), zSite_SU (n := 1) (by decide) (by decide +kernel) (zWd_T (zPls_ok (l := [_]) [1203] (by decide +kernel) (by decide +kernel) _ List.mem_cons_self) rfl) (zWd_T (zPls_ok (l := [_]) [106] (by decide +kernel) (by decide +kernel) _ List.mem_cons_self) rfl) (zWd_T (zPls_ok (l := [_]) [1202] (by decide +kernel) (by decide +kernel) _ List.mem_cons_self) rfl) (zWd_T (zPls_ok (l := [_]) [1201] (by decide +kernel) (by decide +kernel) _ List.mem_cons_self) rfl) (zWd_T (zPls_ok (l := [_]) [2163] (by decide +kernel) (by decide +kernel) _ List.mem_cons_self) rfl) (zWd_T (zPls_ok (l := [_]) [1192] (by decide +kernel) (by decide +kernel) _ List.mem_cons_self) rfl) (by decide) (by decide +kernel) (by decide +kernel)⟩
theorem zxc_276 : zo_276.all (zRowOk 276) = true := by decide +kernel
theorem zxw_276 : ∀ w ∈ zo_276.flatMap (zNds 276), zWd w := zPls_ok [] (by decide +kernel) (by decide +kernel)
theorem zxb_276 : zo_276.all (fun x => decide (x.2.2.2 < 5000) && !(zKd x.2.1 x.2.2.1 x.2.2.2 == 5)) = true := by decide +kernel
theorem zxv_276_2 (l : Launch) : zVr l zi 276 2 (.invokespecial 53) 252 20 := ⟨zDcd_ok (by decide +kernel), zSite_SU (n := 1) (by decide) (by decide +kernel) (zWd_T (zPls_ok (l := [_]) [1294] (by decide +kernel) (by decide +kernel) _ List.mem_cons_self) rfl) (zWd_T (zPls_ok (l := [_]) [106] (by decide +kernel) (by decide +kernel) _ List.mem_cons_self) rfl) (zWd_T (zPls_ok (l := [_]) [1293] (by decide +kernel) (by decide +kernel) _ List.mem_cons_self) rfl) (zWd_T (zPls_ok (l := [_]) [1292] (by decide +kernel) (by decide +kernel) _ List.mem_cons_self) rfl) (zWd_T (zPls_ok (l := [_]) [2167] (by decide +kernel) (by decide +kernel) _ List.mem_cons_self) rfl) (zWd_T (zPls_ok (l := [_]) [1192] (by decide +kernel) (by decide +kernel) _ List.mem_cons_self) rfl) (by decide) (by decide +kernel) (by decide +kernel)⟩
theorem zxc_278 : zo_278.all (zRowOk 278) = true := by decide +kernel
theorem zxw_278 : ∀ w ∈ zo_278.flatMap (zNds 278), zWd w := zPls_ok [] (by decide +kernel) (by decide +kernel)
theorem zxb_278 : zo_278.all (fun x => decide (x.2.2.2 < 5000) && !(zKd x.2.1 x.2.2.1 x.2.2.2 == 5)) = true := by decide +kernel
theorem zxv_278_1 (l : Launch) : zVr l zi 278 1 (.invokespecial 343) 245 20 := ⟨zDcd_ok (by decide +kernel), zSite_SU (n := 0) (by decide) (by decide +kernel) (zWd_T (zPls_ok (l := [_]) [1350] (by decide +kernel) (by decide +kernel) _ List.mem_cons_self) rfl) (zWd_T (zPls_ok (l := [_]) [106] (by decide +kernel) (by decide +kernel) _ List.mem_cons_self) rfl) (zWd_T (zPls_ok (l := [_]) [1344] (by decide +kernel) (by decide +kernel) _ List.mem_cons_self) rfl) (zWd_T (zPls_ok (l := [_]) [1349] (by decide +kernel) (by decide +kernel) _ List.mem_cons_self) rfl) (zWd_T (zPls_ok (l := [_]) [1345] (by decide +kernel) (by decide +kernel) _ List.mem_cons_self) rfl) (zWd_T (zPls_ok (l := [_]) [1192] (by decide +kernel) (by decide +kernel) _ List.mem_cons_self) rfl) (by decide) (by decide +kernel) (by decide +kernel)⟩
theorem zxc_300 : zo_300.all (zRowOk 300) = true := by decide +kernel
theorem zxw_300 : ∀ w ∈ zo_300.flatMap (zNds 300), zWd w := zPls_ok [1469, 85, 1468, 1467, 1475] (by decide +kernel) (by decide +kernel)
theorem zxb_300 : zo_300.all (fun x => decide (x.2.2.2 < 5000) && !(zKd x.2.1 x.2.2.1 x.2.2.2 == 5)) = true := by decide +kernel
theorem zxc_301 : zo_301.all (zRowOk 301) = true := by decide +kernel
theorem zxw_301 : ∀ w ∈ zo_301.flatMap (zNds 301), zWd w := zPls_ok [1466, 86, 1465, 1464, 1473] (by decide +kernel) (by decide +kernel)
theorem zxb_301 : zo_301.all (fun x => decide (x.2.2.2 < 5000) && !(zKd x.2.1 x.2.2.1 x.2.2.2 == 5)) = true := by decide +kernel
theorem zxv_301_5 (l : Launch) : zVr l zi 301 5 (.getstatic 39) 4 3 := ⟨zDcd_ok (by decide +kernel), zCst_g4 (zPls_ok (l := [_]) [1471] (by decide +kernel) (by decide +kernel) _ List.mem_cons_self)⟩
theorem zxc_302 : zo_302.all (zRowOk 302) = true := by decide +kernel
theorem zxw_302 : ∀ w ∈ zo_302.flatMap (zNds 302), zWd w := zPls_ok [1473, 1473, 1214, 98, 1213, 1646, 1473, 1649, 100, 1648, 1647, 1473, 681, 99, 680, 1682, 1683, 1680, 1473] (by decide +kernel) (by decide +kernel)
theorem zxb_302 : zo_302.all (fun x => decide (x.2.2.2 < 5000) && !(zKd x.2.1 x.2.2.1 x.2.2.2 == 5)) = true := by decide +kernel
theorem zxv_302_14 (l : Launch) : zVr l zi 302 14 (.getstatic 39) 4 3 := ⟨zDcd_ok (by decide +kernel), zCst_g4 (zPls_ok (l := [_]) [1471] (by decide +kernel) (by decide +kernel) _ List.mem_cons_self)⟩
theorem zxv_302_17 (l : Launch) : zVr l zi 302 17 (.if_acmp .eq 28) 0 5000 := ⟨zDcd_ok (by decide +kernel), fun w h => nomatch (show w ∈ ([] : List Cond) from h)⟩
theorem zxc_309 : zo_309.all (zRowOk 309) = true := by decide +kernel
theorem zxw_309 : ∀ w ∈ zo_309.flatMap (zNds 309), zWd w := zPls_ok [1473, 1474, 1637, 87, 1636, 37, 1634] (by decide +kernel) (by decide +kernel)
theorem zxb_309 : zo_309.all (fun x => decide (x.2.2.2 < 5000) && !(zKd x.2.1 x.2.2.1 x.2.2.2 == 5)) = true := by decide +kernel
theorem zxv_309_2 (l : Launch) : zVr l zi 309 2 (.getfield 63) 2 5000 := ⟨zDcd_ok (by decide +kernel), zPls_ok [1476, 1477] (by decide +kernel) (by decide +kernel)⟩
theorem zxv_309_7 (l : Launch) : zVr l zi 309 7 (.putfield 63) 2 5000 := ⟨zDcd_ok (by decide +kernel), zPls_ok [1476, 1477] (by decide +kernel) (by decide +kernel)⟩
theorem zxc_310 : zo_310.all (zRowOk 310) = true := by decide +kernel
theorem zxw_310 : ∀ w ∈ zo_310.flatMap (zNds 310), zWd w := zPls_ok [1678, 100, 1677, 1676] (by decide +kernel) (by decide +kernel)
theorem zxb_310 : zo_310.all (fun x => decide (x.2.2.2 < 5000) && !(zKd x.2.1 x.2.2.1 x.2.2.2 == 5)) = true := by decide +kernel
theorem zxv_310_3 (l : Launch) : zVr l zi 310 3 (.invokevirtual 86) 2 5000 := ⟨zDcd_ok (by decide +kernel), zPls_ok [1650, 2197, 2196, 1651, 1675] (by decide +kernel) (by decide +kernel)⟩
theorem zxc_311 : zo_311.all (zRowOk 311) = true := by decide +kernel
theorem zxw_311 : ∀ w ∈ zo_311.flatMap (zNds 311), zWd w := zPls_ok [1681, 1680, 678, 99, 677, 1231] (by decide +kernel) (by decide +kernel)
theorem zxb_311 : zo_311.all (fun x => decide (x.2.2.2 < 5000) && !(zKd x.2.1 x.2.2.1 x.2.2.2 == 5)) = true := by decide +kernel
theorem zxv_311_1 (l : Launch) : zVr l zi 311 1 (.ldc 110) 7 3 := ⟨zDcd_ok (by decide +kernel), zCst_cl (zPls_ok (l := [_]) [1679] (by decide +kernel) (by decide +kernel) _ List.mem_cons_self)⟩
theorem zxv_311_3 (l : Launch) : zVr l zi 311 3 (.if_acmp .ne 10) 0 5000 := ⟨zDcd_ok (by decide +kernel), fun w h => nomatch (show w ∈ ([] : List Cond) from h)⟩
theorem zxv_311_21 (l : Launch) : zVr l zi 311 21 (.checkcast 110) 105 5000 := ⟨zDcd_ok (by decide +kernel), zPls_ok [1679] (by decide +kernel) (by decide +kernel)⟩
theorem zxv_311_35 (l : Launch) : zVr l zi 311 35 (.invokestatic 150) 0 5000 := ⟨zDcd_ok (by decide +kernel), zPls_ok [1232, 1234, 1233, 101] (by decide +kernel) (by decide +kernel)⟩
theorem zxc_312 : zo_312.all (zRowOk 312) = true := by decide +kernel
theorem zxw_312 : ∀ w ∈ zo_312.flatMap (zNds 312), zWd w := zPls_ok [621, 678, 99, 677, 1231] (by decide +kernel) (by decide +kernel)
theorem zxb_312 : zo_312.all (fun x => decide (x.2.2.2 < 5000) && !(zKd x.2.1 x.2.2.1 x.2.2.2 == 5)) = true := by decide +kernel
theorem zxv_312_7 (l : Launch) : zVr l zi 312 7 (.invokevirtual 310) 1 5000 := ⟨zDcd_ok (by decide +kernel), zPls_ok [1224, 1225, 1226, 1227, 1228, 1229] (by decide +kernel) (by decide +kernel)⟩
theorem zxv_312_10 (l : Launch) : zVr l zi 312 10 (.checkcast 311) 101 5000 := ⟨zDcd_ok (by decide +kernel), zPls_ok [1230] (by decide +kernel) (by decide +kernel)⟩
theorem zxv_312_28 (l : Launch) : zVr l zi 312 28 (.invokestatic 150) 0 5000 := ⟨zDcd_ok (by decide +kernel), zPls_ok [1232, 1234, 1233, 101] (by decide +kernel) (by decide +kernel)⟩
theorem zxc_313 : zo_313.all (zRowOk 313) = true := by decide +kernel
theorem zxw_313 : ∀ w ∈ zo_313.flatMap (zNds 313), zWd w := zPls_ok [1362, 1163, 107, 1166, 107, 1165, 1363, 1291, 107, 1289, 1290, 1364, 1369, 107, 1367, 1368, 1366, 1291, 107, 1289, 1290, 1364, 1328, 107, 1326, 1327, 1404] (by decide +kernel) (by decide +kernel)
theorem zxb_313 : zo_313.all (fun x => decide (x.2.2.2 < 5000) && !(zKd x.2.1 x.2.2.1 x.2.2.2 == 5)) = true := by decide +kernel
theorem zxc_314 : zo_314.all (zRowOk 314) = true := by decide +kernel
theorem zxw_314 : ∀ w ∈ zo_314.flatMap (zNds 314), zWd w := zPls_ok [1357, 100, 1356, 1355] (by decide +kernel) (by decide +kernel)
theorem zxb_314 : zo_314.all (fun x => decide (x.2.2.2 < 5000) && !(zKd x.2.1 x.2.2.1 x.2.2.2 == 5)) = true := by decide +kernel
theorem zxv_314_18 (l : Launch) : zVr l zi 314 18 (.invokevirtual 310) 1 5000 := ⟨zDcd_ok (by decide +kernel), zPls_ok [1224, 1225, 1226, 1227, 1228, 1229] (by decide +kernel) (by decide +kernel)⟩
theorem zxv_314_21 (l : Launch) : zVr l zi 314 21 (.checkcast 311) 101 5000 := ⟨zDcd_ok (by decide +kernel), zPls_ok [1230] (by decide +kernel) (by decide +kernel)⟩
theorem zxc_315 : zo_315.all (zRowOk 315) = true := by decide +kernel
theorem zxw_315 : ∀ w ∈ zo_315.flatMap (zNds 315), zWd w := zPls_ok [1360, 100, 1359, 1358, 621, 678, 99, 677, 1231] (by decide +kernel) (by decide +kernel)
theorem zxb_315 : zo_315.all (fun x => decide (x.2.2.2 < 5000) && !(zKd x.2.1 x.2.2.1 x.2.2.2 == 5)) = true := by decide +kernel
theorem zxv_315_27 (l : Launch) : zVr l zi 315 27 (.invokestatic 150) 0 5000 := ⟨zDcd_ok (by decide +kernel), zPls_ok [1232, 1234, 1233, 101] (by decide +kernel) (by decide +kernel)⟩
theorem zxc_318 : zo_318.all (zRowOk 318) = true := by decide +kernel
theorem zxw_318 : ∀ w ∈ zo_318.flatMap (zNds 318), zWd w := zPls_ok [1216, 1216] (by decide +kernel) (by decide +kernel)
theorem zxb_318 : zo_318.all (fun x => decide (x.2.2.2 < 5000) && !(zKd x.2.1 x.2.2.1 x.2.2.2 == 5)) = true := by decide +kernel
theorem zxc_319 : zo_319.all (zRowOk 319) = true := by decide +kernel
theorem zxw_319 : ∀ w ∈ zo_319.flatMap (zNds 319), zWd w := zPls_ok [] (by decide +kernel) (by decide +kernel)
theorem zxb_319 : zo_319.all (fun x => decide (x.2.2.2 < 5000) && !(zKd x.2.1 x.2.2.1 x.2.2.2 == 5)) = true := by decide +kernel
theorem zxc_320 : zo_320.all (zRowOk 320) = true := by decide +kernel
theorem zxw_320 : ∀ w ∈ zo_320.flatMap (zNds 320), zWd w := zPls_ok [] (by decide +kernel) (by decide +kernel)
theorem zxb_320 : zo_320.all (fun x => decide (x.2.2.2 < 5000) && !(zKd x.2.1 x.2.2.1 x.2.2.2 == 5)) = true := by decide +kernel
theorem zxc_321 : zo_321.all (zRowOk 321) = true := by decide +kernel
theorem zxw_321 : ∀ w ∈ zo_321.flatMap (zNds 321), zWd w := zPls_ok [] (by decide +kernel) (by decide +kernel)
theorem zxb_321 : zo_321.all (fun x => decide (x.2.2.2 < 5000) && !(zKd x.2.1 x.2.2.1 x.2.2.2 == 5)) = true := by decide +kernel

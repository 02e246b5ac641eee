/-! ===== the check of the rows that were left out ===== -/
theorem zxv_88_104 (l : Launch) : zVr l zi 88 104 (.ddiv) 0 5000 := ⟨zDcd_ok (by decide +kernel), fun w h => nomatch (show w ∈ ([] : List Cond) from h)⟩
theorem zxv_95_252 (l : Launch) : zVr l zi 95 252 (.dmul) 0 5000 := ⟨zDcd_ok (by decide +kernel), fun w h => nomatch (show w ∈ ([] : List Cond) from h)⟩
theorem zxc_129 : zo_129.all (zRowOk 129) = true := by decide +kernel
theorem zxw_129 : ∀ w ∈ zo_129.flatMap (zNds 129), zWd w := zPls_ok [1457, 180, 1490, 1458, 120, 180, 1491, 180, 1492, 1459, 1460, 87, 1463, 87, 1462, 1461, 1493, 1459, 1460, 87, 1463, 87, 1462, 1461, 1494, 1459, 1460, 87, 1463, 87, 1462, 1461, 1495, 1496, 1458, 120, 180, 1497, 1458, 120, 180, 1498, 180, 1499, 180, 1500, 180, 1501, 1490, 1491, 1497] (by decide +kernel) (by decide +kernel)
theorem zxb_129 : zo_129.all (fun x => decide (x.2.2.2 < 5000) && !(zKd x.2.1 x.2.2.1 x.2.2.2 == 5)) = true := by decide +kernel
theorem zxv_129_65 (l : Launch) : zVr l zi 129 65 (.ldc 34) 1 3 := ⟨zDcd_ok (by decide +kernel), zCst_st (by decide +kernel)⟩
theorem zxc_160 : zo_160.all (zRowOk 160) = true := by decide +kernel
theorem zxw_160 : ∀ w ∈ zo_160.flatMap (zNds 160), zWd w := zPls_ok [1486, 1495, 1573, 87, 1571, 1569, 1565, 1551, 84, 1550, 36, 1548, 1495, 1573, 87, 1571, 1569, 1565, 1788, 84, 1787, 41, 1785, 1496, 1503, 1495, 1629, 87, 1627, 1625, 1622, 1495, 1573, 87, 1571, 1569, 1565] (by decide +kernel) (by decide +kernel)
theorem zxb_160 : zo_160.all (fun x => decide (x.2.2.2 < 5000) && !(zKd x.2.1 x.2.2.1 x.2.2.2 == 5)) = true := by decide +kernel
theorem zxv_160_40 (l : Launch) : zVr l zi 160 40 (.ldc 34) 1 3 := ⟨zDcd_ok (by decide +kernel), zCst_st (by decide +kernel)⟩
theorem zxc_161 : zo_161.all (zRowOk 161) = true := by decide +kernel
theorem zxw_161 : ∀ w ∈ zo_161.flatMap (zNds 161), zWd w := zPls_ok [1486, 1892, 84, 1891, 48, 1889, 1551, 84, 1550, 36, 1548, 1896, 84, 1895, 49, 1893, 1551, 84, 1550, 36, 1548, 1788, 84, 1787, 41, 1785, 1496, 1503, 1495, 1905, 87, 1903, 1901, 1898] (by decide +kernel) (by decide +kernel)
theorem zxb_161 : zo_161.all (fun x => decide (x.2.2.2 < 5000) && !(zKd x.2.1 x.2.2.1 x.2.2.2 == 5)) = true := by decide +kernel
theorem zxv_161_56 (l : Launch) : zVr l zi 161 56 (.ldc 34) 1 3 := ⟨zDcd_ok (by decide +kernel), zCst_st (by decide +kernel)⟩
theorem zxv_196_167 (l : Launch) : zVr l zi 196 167 (.ddiv) 0 5000 := ⟨zDcd_ok (by decide +kernel), fun w h => nomatch (show w ∈ ([] : List Cond) from h)⟩
theorem zxc_200 : zo_200.all (zRowOk 200) = true := by decide +kernel
theorem zxw_200 : ∀ w ∈ zo_200.flatMap (zNds 200), zWd w := zPls_ok [1486, 1892, 84, 1891, 48, 1889, 1486, 1495, 1696, 87, 1694, 1692, 1689, 1789, 1776, 1163, 107, 1166, 107, 1165, 1777, 1200, 107, 1198, 1199, 1779, 1796, 1291, 107, 1289, 1290, 2130, 1200, 107, 1198, 1199, 1779, 1798, 1718, 84, 1717, 1716, 1291, 107, 1289, 1290, 2130, 1800, 1718, 84, 1717, 1716, 1200, 107, 1198, 1199, 1779, 1291, 107, 1289, 1290, 2130, 1802, 1718, 84, 1717, 1716, 1200, 107, 1198, 1199, 1779, 1291, 107, 1289, 1290, 2130, 1808, 1804, 1200, 107, 1198, 1199, 1779, 1806, 1291, 107, 1289, 1290, 2130, 1200, 107, 1198, 1199, 1779, 1809, 1809, 1291, 107, 1289, 1290, 2130, 1809, 1200, 107, 1198, 1199, 1779, 1200, 107, 1198, 1199, 1779, 1809, 1291, 107, 1289, 1290, 2130, 1811, 1200, 107, 1198, 1199, 1779, 1811, 1291, 107, 1289, 1290, 2130, 1328, 107, 1326, 1327, 1780] (by decide +kernel) (by decide +kernel)
theorem zxb_200 : zo_200.all (fun x => decide (x.2.2.2 < 5000) && !(zKd x.2.1 x.2.2.1 x.2.2.2 == 5)) = true := by decide +kernel
theorem zxv_200_18 (l : Launch) : zVr l zi 200 18 (.ldc 34) 1 3 := ⟨zDcd_ok (by decide +kernel), zCst_st (by decide +kernel)⟩
theorem zxv_206_518 (l : Launch) : zVr l zi 206 518 (.dmul) 0 5000 := ⟨zDcd_ok (by decide +kernel), fun w h => nomatch (show w ∈ ([] : List Cond) from h)⟩
theorem zxc_243 : zo_243.all (zRowOk 243) = true := by decide +kernel
theorem zxw_243 : ∀ w ∈ zo_243.flatMap (zNds 243), zWd w := zPls_ok [1170, 621, 1180, 1181, 1175, 108, 1174, 1173, 1180, 1181] (by decide +kernel) (by decide +kernel)
theorem zxb_243 : zo_243.all (fun x => decide (x.2.2.2 < 5000) && !(zKd x.2.1 x.2.2.1 x.2.2.2 == 5)) = true := by decide +kernel
theorem zxv_243_4 (l : Launch) : zVr l zi 243 4 (.getstatic 18) 1 0 := ⟨zDcd_ok (by decide +kernel), zCst_gz (zPls_ok (l := [_]) [1171] (by decide +kernel) (by decide +kernel) _ List.mem_cons_self)⟩
theorem zxc_245 : zo_245.all (zRowOk 245) = true := by decide +kernel
theorem zxw_245 : ∀ w ∈ zo_245.flatMap (zNds 245), zWd w := zPls_ok [1180, 1181, 1180, 1181, 1223, 100, 1222, 1221, 1180] (by decide +kernel) (by decide +kernel)
theorem zxb_245 : zo_245.all (fun x => decide (x.2.2.2 < 5000) && !(zKd x.2.1 x.2.2.1 x.2.2.2 == 5)) = true := by decide +kernel
theorem zxv_245_24 (l : Launch) : zVr l zi 245 24 (.invokevirtual 104) 246 20 := ⟨zDcd_ok (by decide +kernel), zSite_VP (n := 1) (by decide) (by decide +kernel) (by decide +kernel) (by decide +kernel) (zWd_T (zPls_ok (l := [_]) [1211] (by decide +kernel) (by decide +kernel) _ List.mem_cons_self) rfl) (zWd_T (zPls_ok (l := [_]) [106] (by decide +kernel) (by decide +kernel) _ List.mem_cons_self) rfl) (zWd_T (zPls_ok (l := [_]) [1210] (by decide +kernel) (by decide +kernel) _ List.mem_cons_self) rfl) (zWd_T (zPls_ok (l := [_]) [1238] (by decide +kernel) (by decide +kernel) _ List.mem_cons_self) rfl) (zPls_ok (l := [_]) [1209] (by decide +kernel) (by decide +kernel) _ List.mem_cons_self) (zWd_T (zPls_ok (l := [_]) [1208] (by decide +kernel) (by decide +kernel) _ List.mem_cons_self) rfl) (by decide +kernel) (by decide +kernel)⟩
theorem zxc_246 : zo_246.all (zRowOk 246) = true := by decide +kernel
theorem zxw_246 : ∀ w ∈ zo_246.flatMap (zNds 246), zWd w := zPls_ok [1180, 1181, 1181, 1214, 98, 1213, 1212, 1220, 1181] (by decide +kernel) (by decide +kernel)
theorem zxb_246 : zo_246.all (fun x => decide (x.2.2.2 < 5000) && !(zKd x.2.1 x.2.2.1 x.2.2.2 == 5)) = true := by decide +kernel
theorem zxc_247 : zo_247.all (zRowOk 247) = true := by decide +kernel
theorem zxw_247 : ∀ w ∈ zo_247.flatMap (zNds 247), zWd w := zPls_ok [1239, 106, 1236, 1238, 1235, 1180, 1175, 108, 1174, 1173, 1180, 1183, 1249, 109, 1248, 1247, 1180, 1181] (by decide +kernel) (by decide +kernel)
theorem zxb_247 : zo_247.all (fun x => decide (x.2.2.2 < 5000) && !(zKd x.2.1 x.2.2.1 x.2.2.2 == 5)) = true := by decide +kernel
theorem zxc_248 : zo_248.all (zRowOk 248) = true := by decide +kernel
theorem zxw_248 : ∀ w ∈ zo_248.flatMap (zNds 248), zWd w := zPls_ok [1383, 105, 1381, 1382, 1380, 1183, 1183, 1183, 1183] (by decide +kernel) (by decide +kernel)
theorem zxb_248 : zo_248.all (fun x => decide (x.2.2.2 < 5000) && !(zKd x.2.1 x.2.2.1 x.2.2.2 == 5)) = true := by decide +kernel
theorem zxv_248_1 (l : Launch) : zVr l zi 248 1 (.ifnonnull 8) 0 5000 := ⟨zDcd_ok (by decide +kernel), fun w h => nomatch (show w ∈ ([] : List Cond) from h)⟩
theorem zxv_248_5 (l : Launch) : zVr l zi 248 5 (.invokevirtual 204) 249 20 := ⟨zDcd_ok (by decide +kernel), zSite_VP (n := 0) (by decide) (by decide +kernel) (by decide +kernel) (by decide +kernel) (zWd_T (zPls_ok (l := [_]) [1376] (by decide +kernel) (by decide +kernel) _ List.mem_cons_self) rfl) (zWd_T (zPls_ok (l := [_]) [106] (by decide +kernel) (by decide +kernel) _ List.mem_cons_self) rfl) (zWd_T (zPls_ok (l := [_]) [1375] (by decide +kernel) (by decide +kernel) _ List.mem_cons_self) rfl) (zWd_T (zPls_ok (l := [_]) [1238] (by decide +kernel) (by decide +kernel) _ List.mem_cons_self) rfl) (zPls_ok (l := [_]) [1374] (by decide +kernel) (by decide +kernel) _ List.mem_cons_self) (zWd_T (zPls_ok (l := [_]) [1373] (by decide +kernel) (by decide +kernel) _ List.mem_cons_self) rfl) (by decide +kernel) (by decide +kernel)⟩
theorem zxv_248_21 (l : Launch) : zVr l zi 248 21 (.invokevirtual 100) 245 20 := ⟨zDcd_ok (by decide +kernel), zSite_VP (n := 1) (by decide) (by decide +kernel) (by decide +kernel) (by decide +kernel) (zWd_T (zPls_ok (l := [_]) [1207] (by decide +kernel) (by decide +kernel) _ List.mem_cons_self) rfl) (zWd_T (zPls_ok (l := [_]) [106] (by decide +kernel) (by decide +kernel) _ List.mem_cons_self) rfl) (zWd_T (zPls_ok (l := [_]) [1206] (by decide +kernel) (by decide +kernel) _ List.mem_cons_self) rfl) (zWd_T (zPls_ok (l := [_]) [1238] (by decide +kernel) (by decide +kernel) _ List.mem_cons_self) rfl) (zPls_ok (l := [_]) [1205] (by decide +kernel) (by decide +kernel) _ List.mem_cons_self) (zWd_T (zPls_ok (l := [_]) [1204] (by decide +kernel) (by decide +kernel) _ List.mem_cons_self) rfl) (by decide +kernel) (by decide +kernel)⟩
theorem zxv_248_30 (l : Launch) : zVr l zi 248 30 (.invokevirtual 208) 255 20 := ⟨zDcd_ok (by decide +kernel), zSite_VP (n := 2) (by decide) (by decide +kernel) (by decide +kernel) (by decide +kernel) (zWd_T (zPls_ok (l := [_]) [1392] (by decide +kernel) (by decide +kernel) _ List.mem_cons_self) rfl) (zWd_T (zPls_ok (l := [_]) [106] (by decide +kernel) (by decide +kernel) _ List.mem_cons_self) rfl) (zWd_T (zPls_ok (l := [_]) [1391] (by decide +kernel) (by decide +kernel) _ List.mem_cons_self) rfl) (zWd_T (zPls_ok (l := [_]) [1238] (by decide +kernel) (by decide +kernel) _ List.mem_cons_self) rfl) (zPls_ok (l := [_]) [1390] (by decide +kernel) (by decide +kernel) _ List.mem_cons_self) (zWd_T (zPls_ok (l := [_]) [1389] (by decide +kernel) (by decide +kernel) _ List.mem_cons_self) rfl) (by decide +kernel) (by decide +kernel)⟩
theorem zxc_249 : zo_249.all (zRowOk 249) = true := by decide +kernel
theorem zxw_249 : ∀ w ∈ zo_249.flatMap (zNds 249), zWd w := zPls_ok [1183, 1183, 1180, 1239, 106, 1236, 1238, 1235, 1379, 108, 1378, 1377, 1183] (by decide +kernel) (by decide +kernel)
theorem zxb_249 : zo_249.all (fun x => decide (x.2.2.2 < 5000) && !(zKd x.2.1 x.2.2.1 x.2.2.2 == 5)) = true := by decide +kernel
theorem zxv_249_7 (l : Launch) : zVr l zi 249 7 (.invokevirtual 100) 245 20 := ⟨zDcd_ok (by decide +kernel), zSite_VP (n := 1) (by decide) (by decide +kernel) (by decide +kernel) (by decide +kernel) (zWd_T (zPls_ok (l := [_]) [1207] (by decide +kernel) (by decide +kernel) _ List.mem_cons_self) rfl) (zWd_T (zPls_ok (l := [_]) [106] (by decide +kernel) (by decide +kernel) _ List.mem_cons_self) rfl) (zWd_T (zPls_ok (l := [_]) [1206] (by decide +kernel) (by decide +kernel) _ List.mem_cons_self) rfl) (zWd_T (zPls_ok (l := [_]) [1238] (by decide +kernel) (by decide +kernel) _ List.mem_cons_self) rfl) (zPls_ok (l := [_]) [1205] (by decide +kernel) (by decide +kernel) _ List.mem_cons_self) (zWd_T (zPls_ok (l := [_]) [1204] (by decide +kernel) (by decide +kernel) _ List.mem_cons_self) rfl) (by decide +kernel) (by decide +kernel)⟩
theorem zxc_250 : zo_250.all (zRowOk 250) = true := by decide +kernel
theorem zxw_250 : ∀ w ∈ zo_250.flatMap (zNds 250), zWd w := zPls_ok [1183, 1239, 106, 1236, 1238, 1235, 1242, 109, 1241, 1240, 1180, 1183, 1183, 1239, 106, 1236, 1238, 1235, 1180, 1183, 1183, 1278, 108, 1277, 1276] (by decide +kernel) (by decide +kernel)
theorem zxb_250 : zo_250.all (fun x => decide (x.2.2.2 < 5000) && !(zKd x.2.1 x.2.2.1 x.2.2.2 == 5)) = true := by decide +kernel
theorem zxv_250_7 (l : Launch) : zVr l zi 250 7 (.invokevirtual 100) 245 20 := ⟨zDcd_ok (by decide +kernel), zSite_VP (n := 1) (by decide) (by decide +kernel) (by decide +kernel) (by decide +kernel) (zWd_T (zPls_ok (l := [_]) [1207] (by decide +kernel) (by decide +kernel) _ List.mem_cons_self) rfl) (zWd_T (zPls_ok (l := [_]) [106] (by decide +kernel) (by decide +kernel) _ List.mem_cons_self) rfl) (zWd_T (zPls_ok (l := [_]) [1206] (by decide +kernel) (by decide +kernel) _ List.mem_cons_self) rfl) (zWd_T (zPls_ok (l := [_]) [1238] (by decide +kernel) (by decide +kernel) _ List.mem_cons_self) rfl) (zPls_ok (l := [_]) [1205] (by decide +kernel) (by decide +kernel) _ List.mem_cons_self) (zWd_T (zPls_ok (l := [_]) [1204] (by decide +kernel) (by decide +kernel) _ List.mem_cons_self) rfl) (by decide +kernel) (by decide +kernel)⟩
theorem zxv_250_53 (l : Launch) : zVr l zi 250 53 (.invokevirtual 195) 247 20 := ⟨zDcd_ok (by decide +kernel), zSite_VP (n := 0) (by decide) (by decide +kernel) (by decide +kernel) (by decide +kernel) (zWd_T (zPls_ok (l := [_]) [1246] (by decide +kernel) (by decide +kernel) _ List.mem_cons_self) rfl) (zWd_T (zPls_ok (l := [_]) [106] (by decide +kernel) (by decide +kernel) _ List.mem_cons_self) rfl) (zWd_T (zPls_ok (l := [_]) [1245] (by decide +kernel) (by decide +kernel) _ List.mem_cons_self) rfl) (zWd_T (zPls_ok (l := [_]) [1238] (by decide +kernel) (by decide +kernel) _ List.mem_cons_self) rfl) (zPls_ok (l := [_]) [1244] (by decide +kernel) (by decide +kernel) _ List.mem_cons_self) (zWd_T (zPls_ok (l := [_]) [1243] (by decide +kernel) (by decide +kernel) _ List.mem_cons_self) rfl) (by decide +kernel) (by decide +kernel)⟩
theorem zxc_251 : zo_251.all (zRowOk 251) = true := by decide +kernel
theorem zxw_251 : ∀ w ∈ zo_251.flatMap (zNds 251), zWd w := zPls_ok [1183, 1297, 96, 1296, 1295, 1239, 106, 1236, 1238, 1235, 1180, 1300, 96, 1299, 1298, 1180, 1307, 108, 1306, 1305, 1183] (by decide +kernel) (by decide +kernel)
theorem zxb_251 : zo_251.all (fun x => decide (x.2.2.2 < 5000) && !(zKd x.2.1 x.2.2.1 x.2.2.2 == 5)) = true := by decide +kernel
theorem zxv_251_14 (l : Launch) : zVr l zi 251 14 (.invokevirtual 100) 245 20 := ⟨zDcd_ok (by decide +kernel), zSite_VP (n := 1) (by decide) (by decide +kernel) (by decide +kernel) (by decide +kernel) (zWd_T (zPls_ok (l := [_]) [1207] (by decide +kernel) (by decide +kernel) _ List.mem_cons_self) rfl) (zWd_T (zPls_ok (l := [_]) [106] (by decide +kernel) (by decide +kernel) _ List.mem_cons_self) rfl) (zWd_T (zPls_ok (l := [_]) [1206] (by decide +kernel) (by decide +kernel) _ List.mem_cons_self) rfl) (zWd_T (zPls_ok (l := [_]) [1238] (by decide +kernel) (by decide +kernel) _ List.mem_cons_self) rfl) (zPls_ok (l := [_]) [1205] (by decide +kernel) (by decide +kernel) _ List.mem_cons_self) (zWd_T (zPls_ok (l := [_]) [1204] (by decide +kernel) (by decide +kernel) _ List.mem_cons_self) rfl) (by decide +kernel) (by decide +kernel)⟩
theorem zxc_253 : zo_253.all (zRowOk 253) = true := by decide +kernel
theorem zxw_253 : ∀ w ∈ zo_253.flatMap (zNds 253), zWd w := zPls_ok [1181] (by decide +kernel) (by decide +kernel)
theorem zxb_253 : zo_253.all (fun x => decide (x.2.2.2 < 5000) && !(zKd x.2.1 x.2.2.1 x.2.2.2 == 5)) = true := by decide +kernel
theorem zxv_253_0 (l : Launch) : zVr l zi 253 0 (.getstatic 18) 1 0 := ⟨zDcd_ok (by decide +kernel), zCst_gz (zPls_ok (l := [_]) [1171] (by decide +kernel) (by decide +kernel) _ List.mem_cons_self)⟩
theorem zxc_254 : zo_254.all (zRowOk 254) = true := by decide +kernel
theorem zxw_254 : ∀ w ∈ zo_254.flatMap (zNds 254), zWd w := zPls_ok [1181, 1387, 105, 1385, 1386, 1397] (by decide +kernel) (by decide +kernel)
theorem zxb_254 : zo_254.all (fun x => decide (x.2.2.2 < 5000) && !(zKd x.2.1 x.2.2.1 x.2.2.2 == 5)) = true := by decide +kernel
theorem zxv_254_0 (l : Launch) : zVr l zi 254 0 (.getstatic 18) 1 0 := ⟨zDcd_ok (by decide +kernel), zCst_gz (zPls_ok (l := [_]) [1171] (by decide +kernel) (by decide +kernel) _ List.mem_cons_self)⟩
theorem zxv_254_18 (l : Launch) : zVr l zi 254 18 (.invokevirtual 195) 247 20 := ⟨zDcd_ok (by decide +kernel), zSite_VP (n := 0) (by decide) (by decide +kernel) (by decide +kernel) (by decide +kernel) (zWd_T (zPls_ok (l := [_]) [1246] (by decide +kernel) (by decide +kernel) _ List.mem_cons_self) rfl) (zWd_T (zPls_ok (l := [_]) [106] (by decide +kernel) (by decide +kernel) _ List.mem_cons_self) rfl) (zWd_T (zPls_ok (l := [_]) [1245] (by decide +kernel) (by decide +kernel) _ List.mem_cons_self) rfl) (zWd_T (zPls_ok (l := [_]) [1238] (by decide +kernel) (by decide +kernel) _ List.mem_cons_self) rfl) (zPls_ok (l := [_]) [1244] (by decide +kernel) (by decide +kernel) _ List.mem_cons_self) (zWd_T (zPls_ok (l := [_]) [1243] (by decide +kernel) (by decide +kernel) _ List.mem_cons_self) rfl) (by decide +kernel) (by decide +kernel)⟩
theorem zxc_255 : zo_255.all (zRowOk 255) = true := by decide +kernel
theorem zxw_255 : ∀ w ∈ zo_255.flatMap (zNds 255), zWd w := zPls_ok [1180, 1181, 1401, 105, 1399, 1400, 1398] (by decide +kernel) (by decide +kernel)
theorem zxb_255 : zo_255.all (fun x => decide (x.2.2.2 < 5000) && !(zKd x.2.1 x.2.2.1 x.2.2.2 == 5)) = true := by decide +kernel
theorem zxv_255_2 (l : Launch) : zVr l zi 255 2 (.invokevirtual 397) 254 20 := ⟨zDcd_ok (by decide +kernel), zSite_VP (n := 1) (by decide) (by decide +kernel) (by decide +kernel) (by decide +kernel) (zWd_T (zPls_ok (l := [_]) [1396] (by decide +kernel) (by decide +kernel) _ List.mem_cons_self) rfl) (zWd_T (zPls_ok (l := [_]) [106] (by decide +kernel) (by decide +kernel) _ List.mem_cons_self) rfl) (zWd_T (zPls_ok (l := [_]) [1395] (by decide +kernel) (by decide +kernel) _ List.mem_cons_self) rfl) (zWd_T (zPls_ok (l := [_]) [1238] (by decide +kernel) (by decide +kernel) _ List.mem_cons_self) rfl) (zPls_ok (l := [_]) [1394] (by decide +kernel) (by decide +kernel) _ List.mem_cons_self) (zWd_T (zPls_ok (l := [_]) [1393] (by decide +kernel) (by decide +kernel) _ List.mem_cons_self) rfl) (by decide +kernel) (by decide +kernel)⟩
theorem zxc_256 : zo_256.all (zRowOk 256) = true := by decide +kernel
theorem zxw_256 : ∀ w ∈ zo_256.flatMap (zNds 256), zWd w := zPls_ok [] (by decide +kernel) (by decide +kernel)
theorem zxb_256 : zo_256.all (fun x => decide (x.2.2.2 < 5000) && !(zKd x.2.1 x.2.2.1 x.2.2.2 == 5)) = true := by decide +kernel
theorem zxv_256_49 (l : Launch) : zVr l zi 256 49 (.getstatic 83) 6 3 := ⟨zDcd_ok (by decide +kernel), zCst_g6 (zPls_ok (l := [_]) [1301] (by decide +kernel) (by decide +kernel) _ List.mem_cons_self)⟩
theorem zxv_256_62 (l : Launch) : zVr l zi 256 62 (.getstatic 87) 5 3 := ⟨zDcd_ok (by decide +kernel), zCst_g5 (zPls_ok (l := [_]) [1303] (by decide +kernel) (by decide +kernel) _ List.mem_cons_self)⟩
theorem zxv_256_78 (l : Launch) : zVr l zi 256 78 (.getstatic 83) 6 3 := ⟨zDcd_ok (by decide +kernel), zCst_g6 (zPls_ok (l := [_]) [1301] (by decide +kernel) (by decide +kernel) _ List.mem_cons_self)⟩
theorem zxv_256_97 (l : Launch) : zVr l zi 256 97 (.getstatic 87) 5 3 := ⟨zDcd_ok (by decide +kernel), zCst_g5 (zPls_ok (l := [_]) [1303] (by decide +kernel) (by decide +kernel) _ List.mem_cons_self)⟩
theorem zxc_265 : zo_265.all (zRowOk 265) = true := by decide +kernel
theorem zxw_265 : ∀ w ∈ zo_265.flatMap (zNds 265), zWd w := zPls_ok [1387, 105, 1385, 1386, 1384, 1419, 1419, 1419, 1419, 1249, 109, 1248, 1403] (by decide +kernel) (by decide +kernel)
theorem zxb_265 : zo_265.all (fun x => decide (x.2.2.2 < 5000) && !(zKd x.2.1 x.2.2.1 x.2.2.2 == 5)) = true := by decide +kernel
theorem zxv_265_22 (l : Launch) : zVr l zi 265 22 (.invokestatic 212) 0 5000 := ⟨zDcd_ok (by decide +kernel), zPls_ok [1402, 1234, 1233, 101] (by decide +kernel) (by decide +kernel)⟩
theorem zxc_266 : zo_266.all (zRowOk 266) = true := by decide +kernel
theorem zxw_266 : ∀ w ∈ zo_266.flatMap (zNds 266), zWd w := zPls_ok [1337, 1342, 106, 1339, 1341, 1338, 1239, 106, 1236, 1238, 1351, 1420, 1354, 100, 1353, 1352, 1419, 1182, 1408, 108, 1407, 1406, 1419, 1419, 1418, 108, 1417, 1416, 1420, 1420, 1354, 100, 1353, 1352, 1419] (by decide +kernel) (by decide +kernel)
theorem zxb_266 : zo_266.all (fun x => decide (x.2.2.2 < 5000) && !(zKd x.2.1 x.2.2.1 x.2.2.2 == 5)) = true := by decide +kernel
theorem zxv_266_10 (l : Launch) : zVr l zi 266 10 (.invokevirtual 549) 277 20 := ⟨zDcd_ok (by decide +kernel), zSite_VO (by decide) (by decide +kernel) (by decide +kernel) (zWd_T (zPls_ok (l := [.code ⟨"java/lang/StringBuilder", "length", "()I"⟩ prog_34_method_93_code 1 (some .int)]) [1348] (by decide +kernel) (by decide +kernel) _ List.mem_cons_self) rfl) (zWd_T (zPls_ok (l := [_]) [107] (by decide +kernel) (by decide +kernel) _ List.mem_cons_self) rfl) (zWd_T (zPls_ok (l := [_]) [1347] (by decide +kernel) (by decide +kernel) _ List.mem_cons_self) rfl) (zWd_T (zPls_ok (l := [.code ⟨"java/lang/AbstractStringBuilder", "length", "()I"⟩ prog_19_method_6_code 1 (some .int)]) [1350] (by decide +kernel) (by decide +kernel) _ List.mem_cons_self) rfl) (zWd_T (zPls_ok (l := [_]) [1344] (by decide +kernel) (by decide +kernel) _ List.mem_cons_self) rfl) (zWd_T (zPls_ok (l := [_]) [1346] (by decide +kernel) (by decide +kernel) _ List.mem_cons_self) rfl) (zWd_T (zPls_ok (l := [_]) [1345] (by decide +kernel) (by decide +kernel) _ List.mem_cons_self) rfl) (zWd_T (zPls_ok (l := [_]) [1343] (by decide +kernel) (by decide +kernel) _ List.mem_cons_self) rfl) rfl (by decide +kernel)⟩
theorem zxv_266_41 (l : Launch) : zVr l zi 266 41 (.getstatic 38) 1 0 := ⟨zDcd_ok (by decide +kernel), zCst_gz (zPls_ok (l := [_]) [1388] (by decide +kernel) (by decide +kernel) _ List.mem_cons_self)⟩
theorem zxc_267 : zo_267.all (zRowOk 267) = true := by decide +kernel
theorem zxw_267 : ∀ w ∈ zo_267.flatMap (zNds 267), zWd w := zPls_ok [1420] (by decide +kernel) (by decide +kernel)
theorem zxb_267 : zo_267.all (fun x => decide (x.2.2.2 < 5000) && !(zKd x.2.1 x.2.2.1 x.2.2.2 == 5)) = true := by decide +kernel
theorem zxv_267_0 (l : Launch) : zVr l zi 267 0 (.getstatic 38) 1 0 := ⟨zDcd_ok (by decide +kernel), zCst_gz (zPls_ok (l := [_]) [1388] (by decide +kernel) (by decide +kernel) _ List.mem_cons_self)⟩
theorem zxc_268 : zo_268.all (zRowOk 268) = true := by decide +kernel
theorem zxw_268 : ∀ w ∈ zo_268.flatMap (zNds 268), zWd w := zPls_ok [1420] (by decide +kernel) (by decide +kernel)
theorem zxb_268 : zo_268.all (fun x => decide (x.2.2.2 < 5000) && !(zKd x.2.1 x.2.2.1 x.2.2.2 == 5)) = true := by decide +kernel
theorem zxv_268_0 (l : Launch) : zVr l zi 268 0 (.getstatic 38) 1 0 := ⟨zDcd_ok (by decide +kernel), zCst_gz (zPls_ok (l := [_]) [1388] (by decide +kernel) (by decide +kernel) _ List.mem_cons_self)⟩
theorem zxc_269 : zo_269.all (zRowOk 269) = true := by decide +kernel
theorem zxw_269 : ∀ w ∈ zo_269.flatMap (zNds 269), zWd w := zPls_ok [1287, 103, 1286, 1285] (by decide +kernel) (by decide +kernel)
theorem zxb_269 : zo_269.all (fun x => decide (x.2.2.2 < 5000) && !(zKd x.2.1 x.2.2.1 x.2.2.2 == 5)) = true := by decide +kernel
theorem zxv_269_2 (l : Launch) : zVr l zi 269 2 (.getstatic 1053) 0 5000 := ⟨zDcd_ok (by decide +kernel), zPls_ok [1262] (by decide +kernel) (by decide +kernel)⟩
theorem zxc_270 : zo_270.all (zRowOk 270) = true := by decide +kernel
theorem zxw_270 : ∀ w ∈ zo_270.flatMap (zNds 270), zWd w := zPls_ok [1266, 103, 1265, 1264] (by decide +kernel) (by decide +kernel)
theorem zxb_270 : zo_270.all (fun x => decide (x.2.2.2 < 5000) && !(zKd x.2.1 x.2.2.1 x.2.2.2 == 5)) = true := by decide +kernel
theorem zxv_270_3 (l : Launch) : zVr l zi 270 3 (.getstatic 1053) 0 5000 := ⟨zDcd_ok (by decide +kernel), zPls_ok [1262] (by decide +kernel) (by decide +kernel)⟩
theorem zxc_271 : zo_271.all (zRowOk 271) = true := by decide +kernel
theorem zxw_271 : ∀ w ∈ zo_271.flatMap (zNds 271), zWd w := zPls_ok [1316, 103, 1315, 1314] (by decide +kernel) (by decide +kernel)
theorem zxb_271 : zo_271.all (fun x => decide (x.2.2.2 < 5000) && !(zKd x.2.1 x.2.2.1 x.2.2.2 == 5)) = true := by decide +kernel
theorem zxv_271_3 (l : Launch) : zVr l zi 271 3 (.getstatic 1053) 0 5000 := ⟨zDcd_ok (by decide +kernel), zPls_ok [1262] (by decide +kernel) (by decide +kernel)⟩
theorem zxc_273 : zo_273.all (zRowOk 273) = true := by decide +kernel
theorem zxw_273 : ∀ w ∈ zo_273.flatMap (zNds 273), zWd w := zPls_ok [] (by decide +kernel) (by decide +kernel)
theorem zxb_273 : zo_273.all (fun x => decide (x.2.2.2 < 5000) && !(zKd x.2.1 x.2.2.1 x.2.2.2 == 5)) = true := by decide +kernel
theorem zxv_273_2 (l : Launch) : zVr l zi 273 2 (.invokespecial 29) 248 20 := ⟨zDcd_ok (by decide +kernel), zSite_SU (n := 1) (by decide) (by decide +kernel) (zWd_T (zPls_ok (l := [_]) [1372] (by decide +kernel) (by decide +kernel) _ List.mem_cons_self) rfl) (zWd_T (zPls_ok (l := [_]) [106] (by decide +kernel) (by decide +kernel) _ List.mem_cons_self) rfl) (zWd_T (zPls_ok (l := [_]) [1371] (by decide +kernel) (by decide +kernel) _ List.mem_cons_self) rfl) (zWd_T (zPls_ok (l := [_]) [1370] (by decide +kernel) (by decide +kernel) _ List.mem_cons_self) rfl) (zWd_T (zPls_ok (l := [_]) [2164] (by decide +kernel) (by decide +kernel) _ List.mem_cons_self) rfl) (zWd_T (zPls_ok (l := [_]) [1192] (by decide +kernel) (by decide +kernel) _ List.mem_cons_self) rfl) (by decide) (by decide +kernel) (by decide +kernel)⟩
theorem zxc_274 : zo_274.all (zRowOk 274) = true := by decide +kernel
theorem zxw_274 : ∀ w ∈ zo_274.flatMap (zNds 274), zWd w := zPls_ok [] (by decide +kernel) (by decide +kernel)
theorem zxb_274 : zo_274.all (fun x => decide (x.2.2.2 < 5000) && !(zKd x.2.1 x.2.2.1 x.2.2.2 == 5)) = true := by decide +kernel
theorem zxv_274_2 (l : Launch) : zVr l zi 274 2 (.invokespecial 50) 250 20 := ⟨zDcd_ok (by decide +kernel), zSite_SU (n := 1) (by decide) (by decide +kernel) (zWd_T (zPls_ok (l := [_]) [1203] (by decide +kernel) (by decide +kernel) _ List.mem_cons_self) rfl) (zWd_T (zPls_ok (l := [_]) [106] (by decide +kernel) (by decide +kernel) _ List.mem_cons_self) rfl) (zWd_T (zPls_ok (l := [_]) [1202] (by decide +kernel) (by decide +kernel) _ List.mem_cons_self) rfl) (zWd_T (zPls_ok (l := [_]) [1201] (by decide +kernel) (by decide +kernel) _ List.mem_cons_self) rfl) (zWd_T (zPls_ok (l := [_]) [2159] (by decide +kernel) (by decide +kernel) _ List.mem_cons_self) rfl) (zWd_T (zPls_ok (l := [_]) [1192] (by decide +kernel) (by decide +kernel) _ List.mem_cons_self) rfl) (by decide) (by decide +kernel) (by decide +kernel)⟩
theorem zxc_275 : zo_275.all (zRowOk 275) = true := by decide +kernel
theorem zxw_275 : ∀ w ∈ zo_275.flatMap (zNds 275), zWd w := zPls_ok [] (by decide +kernel) (by decide +kernel)
theorem zxb_275 : zo_275.all (fun x => decide (x.2.2.2 < 5000) && !(zKd x.2.1 x.2.2.1 x.2.2.2 == 5)) = true := by decide +kernel
theorem zxv_275_2 (l : Launch) : zVr l zi 275 2 (.invokespecial 53) 251 20 := ⟨zDcd_ok (by decide +kernel), zSite_SU (n := 1) (by decide) (by decide +kernel) (zWd_T (zPls_ok (l := [_]) [1294] (by decide +kernel) (by decide +kernel) _ List.mem_cons_self) rfl) (zWd_T (zPls_ok (l := [_]) [106] (by decide +kernel) (by decide +kernel) _ List.mem_cons_self) rfl) (zWd_T (zPls_ok (l := [_]) [1293] (by decide +kernel) (by decide +kernel) _ List.mem_cons_self) rfl) (zWd_T (zPls_ok (l := [_]) [1292] (by decide +kernel) (by decide +kernel) _ List.mem_cons_self) rfl) (zWd_T (zPls_ok (l := [_]) [2163] (by decide +kernel) (by decide +kernel) _ List.mem_cons_self) rfl) (zWd_T (zPls_ok (l := [_]) [1192] (by decide +kernel) (by decide +kernel) _ List.mem_cons_self) rfl) (by decide) (by decide +kernel) (by decide +kernel)⟩
theorem zxc_277 : zo_277.all (zRowOk 277) = true := by decide +kernel
theorem zxw_277 : ∀ w ∈ zo_277.flatMap (zNds 277), zWd w := zPls_ok [] (by decide +kernel) (by decide +kernel)
theorem zxb_277 : zo_277.all (fun x => decide (x.2.2.2 < 5000) && !(zKd x.2.1 x.2.2.1 x.2.2.2 == 5)) = true := by decide +kernel
theorem zxv_277_1 (l : Launch) : zVr l zi 277 1 (.invokespecial 343) 244 20 := ⟨zDcd_ok (by decide +kernel), zSite_SU (n := 0) (by decide) (by decide +kernel) (zWd_T (zPls_ok (l := [_]) [1350] (by decide +kernel) (by decide +kernel) _ List.mem_cons_self) rfl) (zWd_T (zPls_ok (l := [_]) [106] (by decide +kernel) (by decide +kernel) _ List.mem_cons_self) rfl) (zWd_T (zPls_ok (l := [_]) [1344] (by decide +kernel) (by decide +kernel) _ List.mem_cons_self) rfl) (zWd_T (zPls_ok (l := [_]) [1349] (by decide +kernel) (by decide +kernel) _ List.mem_cons_self) rfl) (zWd_T (zPls_ok (l := [_]) [1345] (by decide +kernel) (by decide +kernel) _ List.mem_cons_self) rfl) (zWd_T (zPls_ok (l := [_]) [1192] (by decide +kernel) (by decide +kernel) _ List.mem_cons_self) rfl) (by decide) (by decide +kernel) (by decide +kernel)⟩
theorem zxc_299 : zo_299.all (zRowOk 299) = true := by decide +kernel
theorem zxw_299 : ∀ w ∈ zo_299.flatMap (zNds 299), zWd w := zPls_ok [1469, 85, 1468, 1467, 1475] (by decide +kernel) (by decide +kernel)
theorem zxb_299 : zo_299.all (fun x => decide (x.2.2.2 < 5000) && !(zKd x.2.1 x.2.2.1 x.2.2.2 == 5)) = true := by decide +kernel
theorem zxc_300 : zo_300.all (zRowOk 300) = true := by decide +kernel
theorem zxw_300 : ∀ w ∈ zo_300.flatMap (zNds 300), zWd w := zPls_ok [1466, 86, 1465, 1464, 1473] (by decide +kernel) (by decide +kernel)
theorem zxb_300 : zo_300.all (fun x => decide (x.2.2.2 < 5000) && !(zKd x.2.1 x.2.2.1 x.2.2.2 == 5)) = true := by decide +kernel
theorem zxv_300_5 (l : Launch) : zVr l zi 300 5 (.getstatic 39) 4 3 := ⟨zDcd_ok (by decide +kernel), zCst_g4 (zPls_ok (l := [_]) [1471] (by decide +kernel) (by decide +kernel) _ List.mem_cons_self)⟩
theorem zxc_301 : zo_301.all (zRowOk 301) = true := by decide +kernel
theorem zxw_301 : ∀ w ∈ zo_301.flatMap (zNds 301), zWd w := zPls_ok [1473, 1473, 1214, 98, 1213, 1642, 1473, 1645, 100, 1644, 1643, 1473, 681, 99, 680, 1678, 1679, 1676, 1473] (by decide +kernel) (by decide +kernel)
theorem zxb_301 : zo_301.all (fun x => decide (x.2.2.2 < 5000) && !(zKd x.2.1 x.2.2.1 x.2.2.2 == 5)) = true := by decide +kernel
theorem zxv_301_14 (l : Launch) : zVr l zi 301 14 (.getstatic 39) 4 3 := ⟨zDcd_ok (by decide +kernel), zCst_g4 (zPls_ok (l := [_]) [1471] (by decide +kernel) (by decide +kernel) _ List.mem_cons_self)⟩
theorem zxv_301_17 (l : Launch) : zVr l zi 301 17 (.if_acmp .eq 28) 0 5000 := ⟨zDcd_ok (by decide +kernel), fun w h => nomatch (show w ∈ ([] : List Cond) from h)⟩
theorem zxc_308 : zo_308.all (zRowOk 308) = true := by decide +kernel
theorem zxw_308 : ∀ w ∈ zo_308.flatMap (zNds 308), zWd w := zPls_ok [1473, 1474, 1633, 87, 1632, 37, 1630] (by decide +kernel) (by decide +kernel)
theorem zxb_308 : zo_308.all (fun x => decide (x.2.2.2 < 5000) && !(zKd x.2.1 x.2.2.1 x.2.2.2 == 5)) = true := by decide +kernel
theorem zxv_308_2 (l : Launch) : zVr l zi 308 2 (.getfield 63) 2 5000 := ⟨zDcd_ok (by decide +kernel), zPls_ok [1476, 1477] (by decide +kernel) (by decide +kernel)⟩
theorem zxv_308_7 (l : Launch) : zVr l zi 308 7 (.putfield 63) 2 5000 := ⟨zDcd_ok (by decide +kernel), zPls_ok [1476, 1477] (by decide +kernel) (by decide +kernel)⟩
theorem zxc_309 : zo_309.all (zRowOk 309) = true := by decide +kernel
theorem zxw_309 : ∀ w ∈ zo_309.flatMap (zNds 309), zWd w := zPls_ok [1674, 100, 1673, 1672] (by decide +kernel) (by decide +kernel)
theorem zxb_309 : zo_309.all (fun x => decide (x.2.2.2 < 5000) && !(zKd x.2.1 x.2.2.1 x.2.2.2 == 5)) = true := by decide +kernel
theorem zxv_309_3 (l : Launch) : zVr l zi 309 3 (.invokevirtual 86) 2 5000 := ⟨zDcd_ok (by decide +kernel), zPls_ok [1646, 2193, 2192, 1647, 1671] (by decide +kernel) (by decide +kernel)⟩
theorem zxc_310 : zo_310.all (zRowOk 310) = true := by decide +kernel
theorem zxw_310 : ∀ w ∈ zo_310.flatMap (zNds 310), zWd w := zPls_ok [1677, 1676, 678, 99, 677, 1231] (by decide +kernel) (by decide +kernel)
theorem zxb_310 : zo_310.all (fun x => decide (x.2.2.2 < 5000) && !(zKd x.2.1 x.2.2.1 x.2.2.2 == 5)) = true := by decide +kernel
theorem zxv_310_1 (l : Launch) : zVr l zi 310 1 (.ldc 110) 7 3 := ⟨zDcd_ok (by decide +kernel), zCst_cl (zPls_ok (l := [_]) [1675] (by decide +kernel) (by decide +kernel) _ List.mem_cons_self)⟩
theorem zxv_310_3 (l : Launch) : zVr l zi 310 3 (.if_acmp .ne 10) 0 5000 := ⟨zDcd_ok (by decide +kernel), fun w h => nomatch (show w ∈ ([] : List Cond) from h)⟩
theorem zxv_310_21 (l : Launch) : zVr l zi 310 21 (.checkcast 110) 105 5000 := ⟨zDcd_ok (by decide +kernel), zPls_ok [1675] (by decide +kernel) (by decide +kernel)⟩
theorem zxv_310_35 (l : Launch) : zVr l zi 310 35 (.invokestatic 150) 0 5000 := ⟨zDcd_ok (by decide +kernel), zPls_ok [1232, 1234, 1233, 101] (by decide +kernel) (by decide +kernel)⟩
theorem zxc_311 : zo_311.all (zRowOk 311) = true := by decide +kernel
theorem zxw_311 : ∀ w ∈ zo_311.flatMap (zNds 311), zWd w := zPls_ok [621, 678, 99, 677, 1231] (by decide +kernel) (by decide +kernel)
theorem zxb_311 : zo_311.all (fun x => decide (x.2.2.2 < 5000) && !(zKd x.2.1 x.2.2.1 x.2.2.2 == 5)) = true := by decide +kernel
theorem zxv_311_7 (l : Launch) : zVr l zi 311 7 (.invokevirtual 310) 1 5000 := ⟨zDcd_ok (by decide +kernel), zPls_ok [1224, 1225, 1226, 1227, 1228, 1229] (by decide +kernel) (by decide +kernel)⟩
theorem zxv_311_10 (l : Launch) : zVr l zi 311 10 (.checkcast 311) 101 5000 := ⟨zDcd_ok (by decide +kernel), zPls_ok [1230] (by decide +kernel) (by decide +kernel)⟩
theorem zxv_311_28 (l : Launch) : zVr l zi 311 28 (.invokestatic 150) 0 5000 := ⟨zDcd_ok (by decide +kernel), zPls_ok [1232, 1234, 1233, 101] (by decide +kernel) (by decide +kernel)⟩
theorem zxc_312 : zo_312.all (zRowOk 312) = true := by decide +kernel
theorem zxw_312 : ∀ w ∈ zo_312.flatMap (zNds 312), zWd w := zPls_ok [1362, 1163, 107, 1166, 107, 1165, 1363, 1291, 107, 1289, 1290, 1364, 1369, 107, 1367, 1368, 1366, 1291, 107, 1289, 1290, 1364, 1328, 107, 1326, 1327, 1404] (by decide +kernel) (by decide +kernel)
theorem zxb_312 : zo_312.all (fun x => decide (x.2.2.2 < 5000) && !(zKd x.2.1 x.2.2.1 x.2.2.2 == 5)) = true := by decide +kernel
theorem zxc_313 : zo_313.all (zRowOk 313) = true := by decide +kernel
theorem zxw_313 : ∀ w ∈ zo_313.flatMap (zNds 313), zWd w := zPls_ok [1357, 100, 1356, 1355] (by decide +kernel) (by decide +kernel)
theorem zxb_313 : zo_313.all (fun x => decide (x.2.2.2 < 5000) && !(zKd x.2.1 x.2.2.1 x.2.2.2 == 5)) = true := by decide +kernel
theorem zxv_313_18 (l : Launch) : zVr l zi 313 18 (.invokevirtual 310) 1 5000 := ⟨zDcd_ok (by decide +kernel), zPls_ok [1224, 1225, 1226, 1227, 1228, 1229] (by decide +kernel) (by decide +kernel)⟩
theorem zxv_313_21 (l : Launch) : zVr l zi 313 21 (.checkcast 311) 101 5000 := ⟨zDcd_ok (by decide +kernel), zPls_ok [1230] (by decide +kernel) (by decide +kernel)⟩
theorem zxc_314 : zo_314.all (zRowOk 314) = true := by decide +kernel
theorem zxw_314 : ∀ w ∈ zo_314.flatMap (zNds 314), zWd w := zPls_ok [1360, 100, 1359, 1358, 621, 678, 99, 677, 1231] (by decide +kernel) (by decide +kernel)
theorem zxb_314 : zo_314.all (fun x => decide (x.2.2.2 < 5000) && !(zKd x.2.1 x.2.2.1 x.2.2.2 == 5)) = true := by decide +kernel
theorem zxv_314_27 (l : Launch) : zVr l zi 314 27 (.invokestatic 150) 0 5000 := ⟨zDcd_ok (by decide +kernel), zPls_ok [1232, 1234, 1233, 101] (by decide +kernel) (by decide +kernel)⟩
theorem zxc_317 : zo_317.all (zRowOk 317) = true := by decide +kernel
theorem zxw_317 : ∀ w ∈ zo_317.flatMap (zNds 317), zWd w := zPls_ok [1216, 1216] (by decide +kernel) (by decide +kernel)
theorem zxb_317 : zo_317.all (fun x => decide (x.2.2.2 < 5000) && !(zKd x.2.1 x.2.2.1 x.2.2.2 == 5)) = true := by decide +kernel
theorem zxc_318 : zo_318.all (zRowOk 318) = true := by decide +kernel
theorem zxw_318 : ∀ w ∈ zo_318.flatMap (zNds 318), zWd w := zPls_ok [] (by decide +kernel) (by decide +kernel)
theorem zxb_318 : zo_318.all (fun x => decide (x.2.2.2 < 5000) && !(zKd x.2.1 x.2.2.1 x.2.2.2 == 5)) = true := by decide +kernel
theorem zxc_319 : zo_319.all (zRowOk 319) = true := by decide +kernel
theorem zxw_319 : ∀ w ∈ zo_319.flatMap (zNds 319), zWd w := zPls_ok [] (by decide +kernel) (by decide +kernel)
theorem zxb_319 : zo_319.all (fun x => decide (x.2.2.2 < 5000) && !(zKd x.2.1 x.2.2.1 x.2.2.2 == 5)) = true := by decide +kernel
theorem zxc_320 : zo_320.all (zRowOk 320) = true := by decide +kernel
theorem zxw_320 : ∀ w ∈ zo_320.flatMap (zNds 320), zWd w := zPls_ok [] (by decide +kernel) (by decide +kernel)
theorem zxb_320 : zo_320.all (fun x => decide (x.2.2.2 < 5000) && !(zKd x.2.1 x.2.2.1 x.2.2.2 == 5)) = true := by decide +kernel

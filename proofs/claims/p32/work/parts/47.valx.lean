/-! ===== the check of the rows that were left out ===== -/
theorem zxv_88_104 (l : Launch) : zVr l zi 88 104 (.ddiv) 0 5000 := ⟨zDcd_ok (by decide +kernel), fun w h => nomatch (show w ∈ ([] : List Cond) from h)⟩
theorem zxv_95_252 (l : Launch) : zVr l zi 95 252 (.dmul) 0 5000 := ⟨zDcd_ok (by decide +kernel), fun w h => nomatch (show w ∈ ([] : List Cond) from h)⟩
theorem zxc_129 : zo_129.all (zRowOk 129) = true := zrow_of (by decide +kernel) (by decide +kernel)
theorem zxw_129 : ∀ w ∈ zo_129.flatMap (zNds 129), zWd w := zmem_ok (zcl_129.trans zcl_130.symm) zkw_15 [142, 107, 143, 144, 145, 107, 146, 147, 148, 149, 147, 148, 150, 147, 148, 151, 79, 144, 152, 144, 153, 107, 154, 107, 155, 107, 156, 61, 62, 80] _ (by decide +kernel)
theorem zxb_129 : zo_129.all (fun x => decide (x.2.2.2 < 5000) && !(zKd x.2.1 x.2.2.1 x.2.2.2 == 5)) = true := by decide +kernel
theorem zxv_129_65 (l : Launch) : zVr l zi 129 65 (.ldc 34) 1 3 := ⟨zDcd_ok (by decide +kernel), zCst_st (by decide +kernel)⟩
theorem zxc_161 : zo_161.all (zRowOk 161) = true := zrow_of (by decide +kernel) (by decide +kernel)
theorem zxw_161 : ∀ w ∈ zo_161.flatMap (zNds 161), zWd w := zmem_ok (zcl_161.trans zcl_130.symm) zkw_15 [1, 17, 3, 60, 17, 3, 157, 79, 36, 17, 66, 17, 3] _ (by decide +kernel)
theorem zxb_161 : zo_161.all (fun x => decide (x.2.2.2 < 5000) && !(zKd x.2.1 x.2.2.1 x.2.2.2 == 5)) = true := by decide +kernel
theorem zxv_161_40 (l : Launch) : zVr l zi 161 40 (.ldc 34) 1 3 := ⟨zDcd_ok (by decide +kernel), zCst_st (by decide +kernel)⟩
theorem zxc_162 : zo_162.all (zRowOk 162) = true := zrow_of (by decide +kernel) (by decide +kernel)
theorem zxw_162 : ∀ w ∈ zo_162.flatMap (zNds 162), zWd w := zmem_ok (zcl_162.trans zcl_130.symm) zkw_15 [1, 83, 60, 84, 60, 157, 79, 36, 17, 158] _ (by decide +kernel)
theorem zxb_162 : zo_162.all (fun x => decide (x.2.2.2 < 5000) && !(zKd x.2.1 x.2.2.1 x.2.2.2 == 5)) = true := by decide +kernel
theorem zxv_162_56 (l : Launch) : zVr l zi 162 56 (.ldc 34) 1 3 := ⟨zDcd_ok (by decide +kernel), zCst_st (by decide +kernel)⟩
theorem zxv_197_167 (l : Launch) : zVr l zi 197 167 (.ddiv) 0 5000 := ⟨zDcd_ok (by decide +kernel), fun w h => nomatch (show w ∈ ([] : List Cond) from h)⟩
theorem zxc_201 : zo_201.all (zRowOk 201) = true := zrow_of (by decide +kernel) (by decide +kernel)
theorem zxw_201 : ∀ w ∈ zo_201.flatMap (zNds 201), zWd w := zmem_ok (zcl_201.trans zcl_130.symm) zkw_15 [1, 83, 1, 17, 4, 18, 74, 75, 77, 86, 159, 77, 45, 20, 159, 51, 20, 77, 159, 53, 20, 77, 159, 55, 56, 77, 57, 159, 77, 26, 26, 159, 26, 77, 77, 26, 159, 21, 77, 21, 159, 78] _ (by decide +kernel)
theorem zxb_201 : zo_201.all (fun x => decide (x.2.2.2 < 5000) && !(zKd x.2.1 x.2.2.1 x.2.2.2 == 5)) = true := by decide +kernel
theorem zxv_201_18 (l : Launch) : zVr l zi 201 18 (.ldc 34) 1 3 := ⟨zDcd_ok (by decide +kernel), zCst_st (by decide +kernel)⟩
theorem zxv_207_518 (l : Launch) : zVr l zi 207 518 (.dmul) 0 5000 := ⟨zDcd_ok (by decide +kernel), fun w h => nomatch (show w ∈ ([] : List Cond) from h)⟩
theorem zxc_244 : zo_244.all (zRowOk 244) = true := zrow_of (by decide +kernel) (by decide +kernel)
theorem zxw_244 : ∀ w ∈ zo_244.flatMap (zNds 244), zWd w := zmem_ok (zcl_244.trans zcl_245.symm) zkw_17 [2, 3, 4, 5, 6, 4, 5] _ (by decide +kernel)
theorem zxb_244 : zo_244.all (fun x => decide (x.2.2.2 < 5000) && !(zKd x.2.1 x.2.2.1 x.2.2.2 == 5)) = true := by decide +kernel
theorem zxv_244_4 (l : Launch) : zVr l zi 244 4 (.getstatic 18) 1 0 := ⟨zDcd_ok (by decide +kernel), zCst_gz (zPls_ok (l := [_]) [1171] (by decide +kernel) (by decide +kernel) _ List.mem_cons_self)⟩
theorem zxc_246 : zo_246.all (zRowOk 246) = true := zrow_of (by decide +kernel) (by decide +kernel)
theorem zxw_246 : ∀ w ∈ zo_246.flatMap (zNds 246), zWd w := zmem_ok (zcl_246.trans zcl_245.symm) zkw_17 [1, 7, 1, 7, 8, 4] _ (by decide +kernel)
theorem zxb_246 : zo_246.all (fun x => decide (x.2.2.2 < 5000) && !(zKd x.2.1 x.2.2.1 x.2.2.2 == 5)) = true := by decide +kernel
theorem zxv_246_24 (l : Launch) : zVr l zi 246 24 (.invokevirtual 104) 247 20 := ⟨zDcd_ok (by decide +kernel), zSite_VP (n := 1) (by decide) (by decide +kernel) (by decide +kernel) (by decide +kernel) (zWd_T (zPls_ok (l := [_]) [1211] (by decide +kernel) (by decide +kernel) _ List.mem_cons_self) rfl) (zWd_T (zPls_ok (l := [_]) [106] (by decide +kernel) (by decide +kernel) _ List.mem_cons_self) rfl) (zWd_T (zPls_ok (l := [_]) [1210] (by decide +kernel) (by decide +kernel) _ List.mem_cons_self) rfl) (zWd_T (zPls_ok (l := [_]) [1238] (by decide +kernel) (by decide +kernel) _ List.mem_cons_self) rfl) (zPls_ok (l := [_]) [1209] (by decide +kernel) (by decide +kernel) _ List.mem_cons_self) (zWd_T (zPls_ok (l := [_]) [1208] (by decide +kernel) (by decide +kernel) _ List.mem_cons_self) rfl) (by decide +kernel) (by decide +kernel)⟩
theorem zxc_247 : zo_247.all (zRowOk 247) = true := zrow_of (by decide +kernel) (by decide +kernel)
theorem zxw_247 : ∀ w ∈ zo_247.flatMap (zNds 247), zWd w := zmem_ok (zcl_247.trans zcl_245.symm) zkw_17 [1, 7, 7, 9, 10, 7] _ (by decide +kernel)
theorem zxb_247 : zo_247.all (fun x => decide (x.2.2.2 < 5000) && !(zKd x.2.1 x.2.2.1 x.2.2.2 == 5)) = true := by decide +kernel
theorem zxc_248 : zo_248.all (zRowOk 248) = true := zrow_of (by decide +kernel) (by decide +kernel)
theorem zxw_248 : ∀ w ∈ zo_248.flatMap (zNds 248), zWd w := zmem_ok (zcl_248.trans zcl_245.symm) zkw_17 [11, 1, 6, 1, 0, 12, 4, 5] _ (by decide +kernel)
theorem zxb_248 : zo_248.all (fun x => decide (x.2.2.2 < 5000) && !(zKd x.2.1 x.2.2.1 x.2.2.2 == 5)) = true := by decide +kernel
theorem zxc_249 : zo_249.all (zRowOk 249) = true := zrow_of (by decide +kernel) (by decide +kernel)
theorem zxw_249 : ∀ w ∈ zo_249.flatMap (zNds 249), zWd w := zmem_ok (zcl_249.trans zcl_245.symm) zkw_17 [13, 0, 0, 0, 14] _ (by decide +kernel)
theorem zxb_249 : zo_249.all (fun x => decide (x.2.2.2 < 5000) && !(zKd x.2.1 x.2.2.1 x.2.2.2 == 5)) = true := by decide +kernel
theorem zxv_249_1 (l : Launch) : zVr l zi 249 1 (.ifnonnull 8) 0 5000 := ⟨zDcd_ok (by decide +kernel), fun w h => nomatch (show w ∈ ([] : List Cond) from h)⟩
theorem zxv_249_5 (l : Launch) : zVr l zi 249 5 (.invokevirtual 204) 250 20 := ⟨zDcd_ok (by decide +kernel), zSite_VP (n := 0) (by decide) (by decide +kernel) (by decide +kernel) (by decide +kernel) (zWd_T (zPls_ok (l := [_]) [1376] (by decide +kernel) (by decide +kernel) _ List.mem_cons_self) rfl) (zWd_T (zPls_ok (l := [_]) [106] (by decide +kernel) (by decide +kernel) _ List.mem_cons_self) rfl) (zWd_T (zPls_ok (l := [_]) [1375] (by decide +kernel) (by decide +kernel) _ List.mem_cons_self) rfl) (zWd_T (zPls_ok (l := [_]) [1238] (by decide +kernel) (by decide +kernel) _ List.mem_cons_self) rfl) (zPls_ok (l := [_]) [1374] (by decide +kernel) (by decide +kernel) _ List.mem_cons_self) (zWd_T (zPls_ok (l := [_]) [1373] (by decide +kernel) (by decide +kernel) _ List.mem_cons_self) rfl) (by decide +kernel) (by decide +kernel)⟩
theorem zxv_249_21 (l : Launch) : zVr l zi 249 21 (.invokevirtual 100) 246 20 := ⟨zDcd_ok (by decide +kernel), zSite_VP (n := 1) (by decide) (by decide +kernel) (by decide +kernel) (by decide +kernel) (zWd_T (zPls_ok (l := [_]) [1207] (by decide +kernel) (by decide +kernel) _ List.mem_cons_self) rfl) (zWd_T (zPls_ok (l := [_]) [106] (by decide +kernel) (by decide +kernel) _ List.mem_cons_self) rfl) (zWd_T (zPls_ok (l := [_]) [1206] (by decide +kernel) (by decide +kernel) _ List.mem_cons_self) rfl) (zWd_T (zPls_ok (l := [_]) [1238] (by decide +kernel) (by decide +kernel) _ List.mem_cons_self) rfl) (zPls_ok (l := [_]) [1205] (by decide +kernel) (by decide +kernel) _ List.mem_cons_self) (zWd_T (zPls_ok (l := [_]) [1204] (by decide +kernel) (by decide +kernel) _ List.mem_cons_self) rfl) (by decide +kernel) (by decide +kernel)⟩
theorem zxv_249_30 (l : Launch) : zVr l zi 249 30 (.invokevirtual 208) 256 20 := ⟨zDcd_ok (by decide +kernel), zSite_VP (n := 2) (by decide) (by decide +kernel) (by decide +kernel) (by decide +kernel) (zWd_T (zPls_ok (l := [_]) [1392] (by decide +kernel) (by decide +kernel) _ List.mem_cons_self) rfl) (zWd_T (zPls_ok (l := [_]) [106] (by decide +kernel) (by decide +kernel) _ List.mem_cons_self) rfl) (zWd_T (zPls_ok (l := [_]) [1391] (by decide +kernel) (by decide +kernel) _ List.mem_cons_self) rfl) (zWd_T (zPls_ok (l := [_]) [1238] (by decide +kernel) (by decide +kernel) _ List.mem_cons_self) rfl) (zPls_ok (l := [_]) [1390] (by decide +kernel) (by decide +kernel) _ List.mem_cons_self) (zWd_T (zPls_ok (l := [_]) [1389] (by decide +kernel) (by decide +kernel) _ List.mem_cons_self) rfl) (by decide +kernel) (by decide +kernel)⟩
theorem zxc_250 : zo_250.all (zRowOk 250) = true := zrow_of (by decide +kernel) (by decide +kernel)
theorem zxw_250 : ∀ w ∈ zo_250.flatMap (zNds 250), zWd w := zmem_ok (zcl_250.trans zcl_245.symm) zkw_17 [0, 0, 1, 11, 15, 14] _ (by decide +kernel)
theorem zxb_250 : zo_250.all (fun x => decide (x.2.2.2 < 5000) && !(zKd x.2.1 x.2.2.1 x.2.2.2 == 5)) = true := by decide +kernel
theorem zxv_250_7 (l : Launch) : zVr l zi 250 7 (.invokevirtual 100) 246 20 := ⟨zDcd_ok (by decide +kernel), zSite_VP (n := 1) (by decide) (by decide +kernel) (by decide +kernel) (by decide +kernel) (zWd_T (zPls_ok (l := [_]) [1207] (by decide +kernel) (by decide +kernel) _ List.mem_cons_self) rfl) (zWd_T (zPls_ok (l := [_]) [106] (by decide +kernel) (by decide +kernel) _ List.mem_cons_self) rfl) (zWd_T (zPls_ok (l := [_]) [1206] (by decide +kernel) (by decide +kernel) _ List.mem_cons_self) rfl) (zWd_T (zPls_ok (l := [_]) [1238] (by decide +kernel) (by decide +kernel) _ List.mem_cons_self) rfl) (zPls_ok (l := [_]) [1205] (by decide +kernel) (by decide +kernel) _ List.mem_cons_self) (zWd_T (zPls_ok (l := [_]) [1204] (by decide +kernel) (by decide +kernel) _ List.mem_cons_self) rfl) (by decide +kernel) (by decide +kernel)⟩
theorem zxc_251 : zo_251.all (zRowOk 251) = true := zrow_of (by decide +kernel) (by decide +kernel)
theorem zxw_251 : ∀ w ∈ zo_251.flatMap (zNds 251), zWd w := zmem_ok (zcl_251.trans zcl_245.symm) zkw_17 [0, 11, 16, 1, 0, 14, 11, 1, 0, 14, 17] _ (by decide +kernel)
theorem zxb_251 : zo_251.all (fun x => decide (x.2.2.2 < 5000) && !(zKd x.2.1 x.2.2.1 x.2.2.2 == 5)) = true := by decide +kernel
theorem zxv_251_7 (l : Launch) : zVr l zi 251 7 (.invokevirtual 100) 246 20 := ⟨zDcd_ok (by decide +kernel), zSite_VP (n := 1) (by decide) (by decide +kernel) (by decide +kernel) (by decide +kernel) (zWd_T (zPls_ok (l := [_]) [1207] (by decide +kernel) (by decide +kernel) _ List.mem_cons_self) rfl) (zWd_T (zPls_ok (l := [_]) [106] (by decide +kernel) (by decide +kernel) _ List.mem_cons_self) rfl) (zWd_T (zPls_ok (l := [_]) [1206] (by decide +kernel) (by decide +kernel) _ List.mem_cons_self) rfl) (zWd_T (zPls_ok (l := [_]) [1238] (by decide +kernel) (by decide +kernel) _ List.mem_cons_self) rfl) (zPls_ok (l := [_]) [1205] (by decide +kernel) (by decide +kernel) _ List.mem_cons_self) (zWd_T (zPls_ok (l := [_]) [1204] (by decide +kernel) (by decide +kernel) _ List.mem_cons_self) rfl) (by decide +kernel) (by decide +kernel)⟩
theorem zxv_251_53 (l : Launch) : zVr l zi 251 53 (.invokevirtual 195) 248 20 := ⟨zDcd_ok (by decide +kernel), zSite_VP (n := 0) (by decide) (by decide +kernel) (by decide +kernel) (by decide +kernel) (zWd_T (zPls_ok (l := [_]) [1246] (by decide +kernel) (by decide +kernel) _ List.mem_cons_self) rfl) (zWd_T (zPls_ok (l := [_]) [106] (by decide +kernel) (by decide +kernel) _ List.mem_cons_self) rfl) (zWd_T (zPls_ok (l := [_]) [1245] (by decide +kernel) (by decide +kernel) _ List.mem_cons_self) rfl) (zWd_T (zPls_ok (l := [_]) [1238] (by decide +kernel) (by decide +kernel) _ List.mem_cons_self) rfl) (zPls_ok (l := [_]) [1244] (by decide +kernel) (by decide +kernel) _ List.mem_cons_self) (zWd_T (zPls_ok (l := [_]) [1243] (by decide +kernel) (by decide +kernel) _ List.mem_cons_self) rfl) (by decide +kernel) (by decide +kernel)⟩
theorem zxc_252 : zo_252.all (zRowOk 252) = true := zrow_of (by decide +kernel) (by decide +kernel)
theorem zxw_252 : ∀ w ∈ zo_252.flatMap (zNds 252), zWd w := zmem_ok (zcl_252.trans zcl_245.symm) zkw_17 [0, 18, 11, 1, 19, 1, 20, 14] _ (by decide +kernel)
theorem zxb_252 : zo_252.all (fun x => decide (x.2.2.2 < 5000) && !(zKd x.2.1 x.2.2.1 x.2.2.2 == 5)) = true := by decide +kernel
theorem zxv_252_14 (l : Launch) : zVr l zi 252 14 (.invokevirtual 100) 246 20 := ⟨zDcd_ok (by decide +kernel), zSite_VP (n := 1) (by decide) (by decide +kernel) (by decide +kernel) (by decide +kernel) (zWd_T (zPls_ok (l := [_]) [1207] (by decide +kernel) (by decide +kernel) _ List.mem_cons_self) rfl) (zWd_T (zPls_ok (l := [_]) [106] (by decide +kernel) (by decide +kernel) _ List.mem_cons_self) rfl) (zWd_T (zPls_ok (l := [_]) [1206] (by decide +kernel) (by decide +kernel) _ List.mem_cons_self) rfl) (zWd_T (zPls_ok (l := [_]) [1238] (by decide +kernel) (by decide +kernel) _ List.mem_cons_self) rfl) (zPls_ok (l := [_]) [1205] (by decide +kernel) (by decide +kernel) _ List.mem_cons_self) (zWd_T (zPls_ok (l := [_]) [1204] (by decide +kernel) (by decide +kernel) _ List.mem_cons_self) rfl) (by decide +kernel) (by decide +kernel)⟩
theorem zxc_254 : zo_254.all (zRowOk 254) = true := zrow_of (by decide +kernel) (by decide +kernel)
theorem zxw_254 : ∀ w ∈ zo_254.flatMap (zNds 254), zWd w := zmem_ok (zcl_254.trans zcl_245.symm) zkw_17 [7] _ (by decide +kernel)
theorem zxb_254 : zo_254.all (fun x => decide (x.2.2.2 < 5000) && !(zKd x.2.1 x.2.2.1 x.2.2.2 == 5)) = true := by decide +kernel
theorem zxv_254_0 (l : Launch) : zVr l zi 254 0 (.getstatic 18) 1 0 := ⟨zDcd_ok (by decide +kernel), zCst_gz (zPls_ok (l := [_]) [1171] (by decide +kernel) (by decide +kernel) _ List.mem_cons_self)⟩
theorem zxc_255 : zo_255.all (zRowOk 255) = true := zrow_of (by decide +kernel) (by decide +kernel)
theorem zxw_255 : ∀ w ∈ zo_255.flatMap (zNds 255), zWd w := zmem_ok (zcl_255.trans zcl_245.symm) zkw_17 [7, 21] _ (by decide +kernel)
theorem zxb_255 : zo_255.all (fun x => decide (x.2.2.2 < 5000) && !(zKd x.2.1 x.2.2.1 x.2.2.2 == 5)) = true := by decide +kernel
theorem zxv_255_0 (l : Launch) : zVr l zi 255 0 (.getstatic 18) 1 0 := ⟨zDcd_ok (by decide +kernel), zCst_gz (zPls_ok (l := [_]) [1171] (by decide +kernel) (by decide +kernel) _ List.mem_cons_self)⟩
theorem zxv_255_18 (l : Launch) : zVr l zi 255 18 (.invokevirtual 195) 248 20 := ⟨zDcd_ok (by decide +kernel), zSite_VP (n := 0) (by decide) (by decide +kernel) (by decide +kernel) (by decide +kernel) (zWd_T (zPls_ok (l := [_]) [1246] (by decide +kernel) (by decide +kernel) _ List.mem_cons_self) rfl) (zWd_T (zPls_ok (l := [_]) [106] (by decide +kernel) (by decide +kernel) _ List.mem_cons_self) rfl) (zWd_T (zPls_ok (l := [_]) [1245] (by decide +kernel) (by decide +kernel) _ List.mem_cons_self) rfl) (zWd_T (zPls_ok (l := [_]) [1238] (by decide +kernel) (by decide +kernel) _ List.mem_cons_self) rfl) (zPls_ok (l := [_]) [1244] (by decide +kernel) (by decide +kernel) _ List.mem_cons_self) (zWd_T (zPls_ok (l := [_]) [1243] (by decide +kernel) (by decide +kernel) _ List.mem_cons_self) rfl) (by decide +kernel) (by decide +kernel)⟩
theorem zxc_256 : zo_256.all (zRowOk 256) = true := zrow_of (by decide +kernel) (by decide +kernel)
theorem zxw_256 : ∀ w ∈ zo_256.flatMap (zNds 256), zWd w := zmem_ok (zcl_256.trans zcl_245.symm) zkw_17 [1, 7, 22] _ (by decide +kernel)
theorem zxb_256 : zo_256.all (fun x => decide (x.2.2.2 < 5000) && !(zKd x.2.1 x.2.2.1 x.2.2.2 == 5)) = true := by decide +kernel
theorem zxv_256_2 (l : Launch) : zVr l zi 256 2 (.invokevirtual 397) 255 20 := ⟨zDcd_ok (by decide +kernel), zSite_VP (n := 1) (by decide) (by decide +kernel) (by decide +kernel) (by decide +kernel) (zWd_T (zPls_ok (l := [_]) [1396] (by decide +kernel) (by decide +kernel) _ List.mem_cons_self) rfl) (zWd_T (zPls_ok (l := [_]) [106] (by decide +kernel) (by decide +kernel) _ List.mem_cons_self) rfl) (zWd_T (zPls_ok (l := [_]) [1395] (by decide +kernel) (by decide +kernel) _ List.mem_cons_self) rfl) (zWd_T (zPls_ok (l := [_]) [1238] (by decide +kernel) (by decide +kernel) _ List.mem_cons_self) rfl) (zPls_ok (l := [_]) [1394] (by decide +kernel) (by decide +kernel) _ List.mem_cons_self) (zWd_T (zPls_ok (l := [_]) [1393] (by decide +kernel) (by decide +kernel) _ List.mem_cons_self) rfl) (by decide +kernel) (by decide +kernel)⟩
theorem zxc_257 : zo_257.all (zRowOk 257) = true := zrow_of (by decide +kernel) (by decide +kernel)
theorem zxw_257 : ∀ w ∈ zo_257.flatMap (zNds 257), zWd w := zmem_ok (zcl_257.trans zcl_258.symm) zkw_18 [] _ (by decide +kernel)
theorem zxb_257 : zo_257.all (fun x => decide (x.2.2.2 < 5000) && !(zKd x.2.1 x.2.2.1 x.2.2.2 == 5)) = true := by decide +kernel
theorem zxv_257_49 (l : Launch) : zVr l zi 257 49 (.getstatic 83) 6 3 := ⟨zDcd_ok (by decide +kernel), zCst_g6 (zPls_ok (l := [_]) [1301] (by decide +kernel) (by decide +kernel) _ List.mem_cons_self)⟩
theorem zxv_257_62 (l : Launch) : zVr l zi 257 62 (.getstatic 87) 5 3 := ⟨zDcd_ok (by decide +kernel), zCst_g5 (zPls_ok (l := [_]) [1303] (by decide +kernel) (by decide +kernel) _ List.mem_cons_self)⟩
theorem zxv_257_78 (l : Launch) : zVr l zi 257 78 (.getstatic 83) 6 3 := ⟨zDcd_ok (by decide +kernel), zCst_g6 (zPls_ok (l := [_]) [1301] (by decide +kernel) (by decide +kernel) _ List.mem_cons_self)⟩
theorem zxv_257_97 (l : Launch) : zVr l zi 257 97 (.getstatic 87) 5 3 := ⟨zDcd_ok (by decide +kernel), zCst_g5 (zPls_ok (l := [_]) [1303] (by decide +kernel) (by decide +kernel) _ List.mem_cons_self)⟩
theorem zxc_266 : zo_266.all (zRowOk 266) = true := zrow_of (by decide +kernel) (by decide +kernel)
theorem zxw_266 : ∀ w ∈ zo_266.flatMap (zNds 266), zWd w := zmem_ok (zcl_266.trans zcl_263.symm) zkw_20 [2, 1, 1, 1, 1, 6] _ (by decide +kernel)
theorem zxb_266 : zo_266.all (fun x => decide (x.2.2.2 < 5000) && !(zKd x.2.1 x.2.2.1 x.2.2.2 == 5)) = true := by decide +kernel
theorem zxv_266_22 (l : Launch) : zVr l zi 266 22 (.invokestatic 212) 0 5000 := ⟨zDcd_ok (by decide +kernel), zPls_ok [1402, 1234, 1233, 101] (by decide +kernel) (by decide +kernel)⟩
theorem zxc_267 : zo_267.all (zRowOk 267) = true := zrow_of (by decide +kernel) (by decide +kernel)
theorem zxw_267 : ∀ w ∈ zo_267.flatMap (zNds 267), zWd w := zmem_ok (zcl_267.trans zcl_263.symm) zkw_20 [7, 8, 9, 10, 11, 12, 13, 14, 12, 1, 15, 10, 10, 11, 12] _ (by decide +kernel)
theorem zxb_267 : zo_267.all (fun x => decide (x.2.2.2 < 5000) && !(zKd x.2.1 x.2.2.1 x.2.2.2 == 5)) = true := by decide +kernel
theorem zxv_267_10 (l : Launch) : zVr l zi 267 10 (.invokevirtual 549) 278 20 := ⟨zDcd_ok (by decide +kernel), zSite_VO (by decide) (by decide +kernel) (by decide +kernel) (zWd_T (zPls_ok (l := [.code ⟨"java/lang/StringBuilder", "length", "()I"⟩ prog_34_method_93_code 1 (some .int)]) [1348] (by decide +kernel) (by decide +kernel) _ List.mem_cons_self) rfl) (zWd_T (zPls_ok (l := [_]) [107] (by decide +kernel) (by decide +kernel) _ List.mem_cons_self) rfl) (zWd_T (zPls_ok (l := [_]) [1347] (by decide +kernel) (by decide +kernel) _ List.mem_cons_self) rfl) (zWd_T (zPls_ok (l := [.code ⟨"java/lang/AbstractStringBuilder", "length", "()I"⟩ prog_19_method_6_code 1 (some .int)]) [1350] (by decide +kernel) (by decide +kernel) _ List.mem_cons_self) rfl) (zWd_T (zPls_ok (l := [_]) [1344] (by decide +kernel) (by decide +kernel) _ List.mem_cons_self) rfl) (zWd_T (zPls_ok (l := [_]) [1346] (by decide +kernel) (by decide +kernel) _ List.mem_cons_self) rfl) (zWd_T (zPls_ok (l := [_]) [1345] (by decide +kernel) (by decide +kernel) _ List.mem_cons_self) rfl) (zWd_T (zPls_ok (l := [_]) [1343] (by decide +kernel) (by decide +kernel) _ List.mem_cons_self) rfl) rfl (by decide +kernel)⟩
theorem zxv_267_41 (l : Launch) : zVr l zi 267 41 (.getstatic 38) 1 0 := ⟨zDcd_ok (by decide +kernel), zCst_gz (zPls_ok (l := [_]) [1388] (by decide +kernel) (by decide +kernel) _ List.mem_cons_self)⟩
theorem zxc_268 : zo_268.all (zRowOk 268) = true := zrow_of (by decide +kernel) (by decide +kernel)
theorem zxw_268 : ∀ w ∈ zo_268.flatMap (zNds 268), zWd w := zmem_ok (zcl_268.trans zcl_263.symm) zkw_20 [16] _ (by decide +kernel)
theorem zxb_268 : zo_268.all (fun x => decide (x.2.2.2 < 5000) && !(zKd x.2.1 x.2.2.1 x.2.2.2 == 5)) = true := by decide +kernel
theorem zxv_268_0 (l : Launch) : zVr l zi 268 0 (.getstatic 38) 1 0 := ⟨zDcd_ok (by decide +kernel), zCst_gz (zPls_ok (l := [_]) [1388] (by decide +kernel) (by decide +kernel) _ List.mem_cons_self)⟩
theorem zxc_269 : zo_269.all (zRowOk 269) = true := zrow_of (by decide +kernel) (by decide +kernel)
theorem zxw_269 : ∀ w ∈ zo_269.flatMap (zNds 269), zWd w := zmem_ok (zcl_269.trans zcl_263.symm) zkw_20 [16] _ (by decide +kernel)
theorem zxb_269 : zo_269.all (fun x => decide (x.2.2.2 < 5000) && !(zKd x.2.1 x.2.2.1 x.2.2.2 == 5)) = true := by decide +kernel
theorem zxv_269_0 (l : Launch) : zVr l zi 269 0 (.getstatic 38) 1 0 := ⟨zDcd_ok (by decide +kernel), zCst_gz (zPls_ok (l := [_]) [1388] (by decide +kernel) (by decide +kernel) _ List.mem_cons_self)⟩
theorem zxc_270 : zo_270.all (zRowOk 270) = true := zrow_of (by decide +kernel) (by decide +kernel)
theorem zxw_270 : ∀ w ∈ zo_270.flatMap (zNds 270), zWd w := zmem_ok (zcl_270.trans zcl_263.symm) zkw_20 [17] _ (by decide +kernel)
theorem zxb_270 : zo_270.all (fun x => decide (x.2.2.2 < 5000) && !(zKd x.2.1 x.2.2.1 x.2.2.2 == 5)) = true := by decide +kernel
theorem zxv_270_2 (l : Launch) : zVr l zi 270 2 (.getstatic 1053) 0 5000 := ⟨zDcd_ok (by decide +kernel), zPls_ok [1262] (by decide +kernel) (by decide +kernel)⟩
theorem zxc_271 : zo_271.all (zRowOk 271) = true := zrow_of (by decide +kernel) (by decide +kernel)
theorem zxw_271 : ∀ w ∈ zo_271.flatMap (zNds 271), zWd w := zmem_ok (zcl_271.trans zcl_263.symm) zkw_20 [18] _ (by decide +kernel)
theorem zxb_271 : zo_271.all (fun x => decide (x.2.2.2 < 5000) && !(zKd x.2.1 x.2.2.1 x.2.2.2 == 5)) = true := by decide +kernel
theorem zxv_271_3 (l : Launch) : zVr l zi 271 3 (.getstatic 1053) 0 5000 := ⟨zDcd_ok (by decide +kernel), zPls_ok [1262] (by decide +kernel) (by decide +kernel)⟩
theorem zxc_272 : zo_272.all (zRowOk 272) = true := zrow_of (by decide +kernel) (by decide +kernel)
theorem zxw_272 : ∀ w ∈ zo_272.flatMap (zNds 272), zWd w := zmem_ok (zcl_272.trans zcl_263.symm) zkw_20 [19] _ (by decide +kernel)
theorem zxb_272 : zo_272.all (fun x => decide (x.2.2.2 < 5000) && !(zKd x.2.1 x.2.2.1 x.2.2.2 == 5)) = true := by decide +kernel
theorem zxv_272_3 (l : Launch) : zVr l zi 272 3 (.getstatic 1053) 0 5000 := ⟨zDcd_ok (by decide +kernel), zPls_ok [1262] (by decide +kernel) (by decide +kernel)⟩
theorem zxc_274 : zo_274.all (zRowOk 274) = true := zrow_of (by decide +kernel) (by decide +kernel)
theorem zxw_274 : ∀ w ∈ zo_274.flatMap (zNds 274), zWd w := zmem_ok (zcl_274.trans zcl_273.symm) zkw_21 [] _ (by decide +kernel)
theorem zxb_274 : zo_274.all (fun x => decide (x.2.2.2 < 5000) && !(zKd x.2.1 x.2.2.1 x.2.2.2 == 5)) = true := by decide +kernel
theorem zxv_274_2 (l : Launch) : zVr l zi 274 2 (.invokespecial 29) 249 20 := ⟨zDcd_ok (by decide +kernel), zSite_SU (n := 1) (by decide) (by decide +kernel) (zWd_T (zPls_ok (l := [_]) [1372] (by decide +kernel) (by decide +kernel) _ List.mem_cons_self) rfl) (zWd_T (zPls_ok (l := [_]) [106] (by decide +kernel) (by decide +kernel) _ List.mem_cons_self) rfl) (zWd_T (zPls_ok (l := [_]) [1371] (by decide +kernel) (by decide +kernel) _ List.mem_cons_self) rfl) (zWd_T (zPls_ok (l := [_]) [1370] (by decide +kernel) (by decide +kernel) _ List.mem_cons_self) rfl) (zWd_T (zPls_ok (l := [_]) [2168] (by decide +kernel) (by decide +kernel) _ List.mem_cons_self) rfl) (zWd_T (zPls_ok (l := [_]) [1192] (by decide +kernel) (by decide +kernel) _ List.mem_cons_self) rfl) (by decide) (by decide +kernel) (by decide +kernel)⟩
theorem zxc_275 : zo_275.all (zRowOk 275) = true := zrow_of (by decide +kernel) (by decide +kernel)
theorem zxw_275 : ∀ w ∈ zo_275.flatMap (zNds 275), zWd w := zmem_ok (zcl_275.trans zcl_273.symm) zkw_21 [] _ (by decide +kernel)
theorem zxb_275 : zo_275.all (fun x => decide (x.2.2.2 < 5000) && !(zKd x.2.1 x.2.2.1 x.2.2.2 == 5)) = true := by decide +kernel
theorem zxv_275_2 (l : Launch) : zVr l zi 275 2 (.invokespecial 50) 251 20 := ⟨zDcd_ok (by decide +kernel), zSite_SU (n := 1) (by decide) (by decide +kernel) (zWd_T (zPls_ok (l := [_]) [1203] (by decide +kernel) (by decide +kernel) _ List.mem_cons_self) rfl) (zWd_T (zPls_ok (l := [_]) [106] (by decide +kernel) (by decide +kernel) _ List.mem_cons_self) rfl) (zWd_T (zPls_ok (l := [_]) [1202] (by decide +kernel) (by decide +kernel) _ List.mem_cons_self) rfl) (zWd_T (zPls_ok (l := [_]) [1201] (by decide +kernel) (by decide +kernel) _ List.mem_cons_self) rfl) (zWd_T (zPls_ok (l := [_]) [2163] (by decide +kernel) (by decide +kernel) _ List.mem_cons_self) rfl) (zWd_T (zPls_ok (l := [_]) [1192] (by decide +kernel) (by decide +kernel) _ List.mem_cons_self) rfl) (by decide) (by decide +kernel) (by decide +kernel)⟩
theorem zxc_276 : zo_276.all (zRowOk 276) = true := zrow_of (by decide +kernel) (by decide +kernel)
theorem zxw_276 : ∀ w ∈ zo_276.flatMap (zNds 276), zWd w := zmem_ok (zcl_276.trans zcl_273.symm) zkw_21 [] _ (by decide +kernel)
theorem zxb_276 : zo_276.all (fun x => decide (x.2.2.2 < 5000) && !(zKd x.2.1 x.2.2.1 x.2.2.2 == 5)) = true := by decide +kernel
theorem zxv_276_2 (l : Launch) : zVr l zi 276 2 (.invokespecial 53) 252 20 := ⟨zDcd_ok (by decide +kernel), zSite_SU (n := 1) (by decide) (by decide +kernel) (zWd_T (zPls_ok (l := [_]) [1294] (by decide +kernel) (by decide +kernel) _ List.mem_cons_self) rfl) (zWd_T (zPls_ok (l := [_]) [106] (by decide +kernel) (by decide +kernel) _ List.mem_cons_self) rfl) (zWd_T (zPls_ok (l := [_]) [1293] (by decide +kernel) (by decide +kernel) _ List.mem_cons_self) rfl) (zWd_T (zPls_ok (l := [_]) [1292] (by decide +kernel) (by decide +kernel) _ List.mem_cons_self) rfl) (zWd_T (zPls_ok (l := [_]) [2167] (by decide +kernel) (by decide +kernel) _ List.mem_cons_self) rfl) (zWd_T (zPls_ok (l := [_]) [1192] (by decide +kernel) (by decide +kernel) _ List.mem_cons_self) rfl) (by decide) (by decide +kernel) (by decide +kernel)⟩
theorem zxc_278 : zo_278.all (zRowOk 278) = true := zrow_of (by decide +kernel) (by decide +kernel)
theorem zxw_278 : ∀ w ∈ zo_278.flatMap (zNds 278), zWd w := zmem_ok (zcl_278.trans zcl_273.symm) zkw_21 [] _ (by decide +kernel)
theorem zxb_278 : zo_278.all (fun x => decide (x.2.2.2 < 5000) && !(zKd x.2.1 x.2.2.1 x.2.2.2 == 5)) = true := by decide +kernel
theorem zxv_278_1 (l : Launch) : zVr l zi 278 1 (.invokespecial 343) 245 20 := ⟨zDcd_ok (by decide +kernel), zSite_SU (n := 0) (by decide) (by decide +kernel) (zWd_T (zPls_ok (l := [_]) [1350] (by decide +kernel) (by decide +kernel) _ List.mem_cons_self) rfl) (zWd_T (zPls_ok (l := [_]) [106] (by decide +kernel) (by decide +kernel) _ List.mem_cons_self) rfl) (zWd_T (zPls_ok (l := [_]) [1344] (by decide +kernel) (by decide +kernel) _ List.mem_cons_self) rfl) (zWd_T (zPls_ok (l := [_]) [1349] (by decide +kernel) (by decide +kernel) _ List.mem_cons_self) rfl) (zWd_T (zPls_ok (l := [_]) [1345] (by decide +kernel) (by decide +kernel) _ List.mem_cons_self) rfl) (zWd_T (zPls_ok (l := [_]) [1192] (by decide +kernel) (by decide +kernel) _ List.mem_cons_self) rfl) (by decide) (by decide +kernel) (by decide +kernel)⟩
theorem zxc_300 : zo_300.all (zRowOk 300) = true := zrow_of (by decide +kernel) (by decide +kernel)
theorem zxw_300 : ∀ w ∈ zo_300.flatMap (zNds 300), zWd w := zmem_ok (zcl_300.trans zcl_300.symm) zkw_28 [0, 1] _ (by decide +kernel)
theorem zxb_300 : zo_300.all (fun x => decide (x.2.2.2 < 5000) && !(zKd x.2.1 x.2.2.1 x.2.2.2 == 5)) = true := by decide +kernel
theorem zxc_301 : zo_301.all (zRowOk 301) = true := zrow_of (by decide +kernel) (by decide +kernel)
theorem zxw_301 : ∀ w ∈ zo_301.flatMap (zNds 301), zWd w := zmem_ok (zcl_301.trans zcl_303.symm) zkw_25 [7, 8] _ (by decide +kernel)
theorem zxb_301 : zo_301.all (fun x => decide (x.2.2.2 < 5000) && !(zKd x.2.1 x.2.2.1 x.2.2.2 == 5)) = true := by decide +kernel
theorem zxv_301_5 (l : Launch) : zVr l zi 301 5 (.getstatic 39) 4 3 := ⟨zDcd_ok (by decide +kernel), zCst_g4 (zPls_ok (l := [_]) [1471] (by decide +kernel) (by decide +kernel) _ List.mem_cons_self)⟩
theorem zxc_302 : zo_302.all (zRowOk 302) = true := zrow_of (by decide +kernel) (by decide +kernel)
theorem zxw_302 : ∀ w ∈ zo_302.flatMap (zNds 302), zWd w := zmem_ok (zcl_302.trans zcl_303.symm) zkw_25 [2, 2, 9, 2, 10, 8, 11, 12, 8] _ (by decide +kernel)
theorem zxb_302 : zo_302.all (fun x => decide (x.2.2.2 < 5000) && !(zKd x.2.1 x.2.2.1 x.2.2.2 == 5)) = true := by decide +kernel
theorem zxv_302_14 (l : Launch) : zVr l zi 302 14 (.getstatic 39) 4 3 := ⟨zDcd_ok (by decide +kernel), zCst_g4 (zPls_ok (l := [_]) [1471] (by decide +kernel) (by decide +kernel) _ List.mem_cons_self)⟩
theorem zxv_302_17 (l : Launch) : zVr l zi 302 17 (.if_acmp .eq 28) 0 5000 := ⟨zDcd_ok (by decide +kernel), fun w h => nomatch (show w ∈ ([] : List Cond) from h)⟩
theorem zxc_309 : zo_309.all (zRowOk 309) = true := zrow_of (by decide +kernel) (by decide +kernel)
theorem zxw_309 : ∀ w ∈ zo_309.flatMap (zNds 309), zWd w := zmem_ok (zcl_309.trans zcl_303.symm) zkw_25 [2, 0, 13] _ (by decide +kernel)
theorem zxb_309 : zo_309.all (fun x => decide (x.2.2.2 < 5000) && !(zKd x.2.1 x.2.2.1 x.2.2.2 == 5)) = true := by decide +kernel
theorem zxv_309_2 (l : Launch) : zVr l zi 309 2 (.getfield 63) 2 5000 := ⟨zDcd_ok (by decide +kernel), zPls_ok [1476, 1477] (by decide +kernel) (by decide +kernel)⟩
theorem zxv_309_7 (l : Launch) : zVr l zi 309 7 (.putfield 63) 2 5000 := ⟨zDcd_ok (by decide +kernel), zPls_ok [1476, 1477] (by decide +kernel) (by decide +kernel)⟩
theorem zxc_310 : zo_310.all (zRowOk 310) = true := zrow_of (by decide +kernel) (by decide +kernel)
theorem zxw_310 : ∀ w ∈ zo_310.flatMap (zNds 310), zWd w := zmem_ok (zcl_310.trans zcl_310.symm) zkw_29 [0] _ (by decide +kernel)
theorem zxb_310 : zo_310.all (fun x => decide (x.2.2.2 < 5000) && !(zKd x.2.1 x.2.2.1 x.2.2.2 == 5)) = true := by decide +kernel
theorem zxv_310_3 (l : Launch) : zVr l zi 310 3 (.invokevirtual 86) 2 5000 := ⟨zDcd_ok (by decide +kernel), zPls_ok [1650, 2197, 2196, 1651, 1675] (by decide +kernel) (by decide +kernel)⟩
theorem zxc_311 : zo_311.all (zRowOk 311) = true := zrow_of (by decide +kernel) (by decide +kernel)
theorem zxw_311 : ∀ w ∈ zo_311.flatMap (zNds 311), zWd w := zmem_ok (zcl_311.trans zcl_310.symm) zkw_29 [1, 2] _ (by decide +kernel)
theorem zxb_311 : zo_311.all (fun x => decide (x.2.2.2 < 5000) && !(zKd x.2.1 x.2.2.1 x.2.2.2 == 5)) = true := by decide +kernel
theorem zxv_311_1 (l : Launch) : zVr l zi 311 1 (.ldc 110) 7 3 := ⟨zDcd_ok (by decide +kernel), zCst_cl (zPls_ok (l := [_]) [1679] (by decide +kernel) (by decide +kernel) _ List.mem_cons_self)⟩
theorem zxv_311_3 (l : Launch) : zVr l zi 311 3 (.if_acmp .ne 10) 0 5000 := ⟨zDcd_ok (by decide +kernel), fun w h => nomatch (show w ∈ ([] : List Cond) from h)⟩
theorem zxv_311_21 (l : Launch) : zVr l zi 311 21 (.checkcast 110) 105 5000 := ⟨zDcd_ok (by decide +kernel), zPls_ok [1679] (by decide +kernel) (by decide +kernel)⟩
theorem zxv_311_35 (l : Launch) : zVr l zi 311 35 (.invokestatic 150) 0 5000 := ⟨zDcd_ok (by decide +kernel), zPls_ok [1232, 1234, 1233, 101] (by decide +kernel) (by decide +kernel)⟩
theorem zxc_312 : zo_312.all (zRowOk 312) = true := zrow_of (by decide +kernel) (by decide +kernel)
theorem zxw_312 : ∀ w ∈ zo_312.flatMap (zNds 312), zWd w := zmem_ok (zcl_312.trans zcl_310.symm) zkw_29 [3, 2] _ (by decide +kernel)
theorem zxb_312 : zo_312.all (fun x => decide (x.2.2.2 < 5000) && !(zKd x.2.1 x.2.2.1 x.2.2.2 == 5)) = true := by decide +kernel
theorem zxv_312_7 (l : Launch) : zVr l zi 312 7 (.invokevirtual 310) 1 5000 := ⟨zDcd_ok (by decide +kernel), zPls_ok [1224, 1225, 1226, 1227, 1228, 1229] (by decide +kernel) (by decide +kernel)⟩
theorem zxv_312_10 (l : Launch) : zVr l zi 312 10 (.checkcast 311) 101 5000 := ⟨zDcd_ok (by decide +kernel), zPls_ok [1230] (by decide +kernel) (by decide +kernel)⟩
theorem zxv_312_28 (l : Launch) : zVr l zi 312 28 (.invokestatic 150) 0 5000 := ⟨zDcd_ok (by decide +kernel), zPls_ok [1232, 1234, 1233, 101] (by decide +kernel) (by decide +kernel)⟩
theorem zxc_313 : zo_313.all (zRowOk 313) = true := zrow_of (by decide +kernel) (by decide +kernel)
theorem zxw_313 : ∀ w ∈ zo_313.flatMap (zNds 313), zWd w := zmem_ok (zcl_313.trans zcl_310.symm) zkw_29 [4, 5, 6, 7, 6, 8] _ (by decide +kernel)
theorem zxb_313 : zo_313.all (fun x => decide (x.2.2.2 < 5000) && !(zKd x.2.1 x.2.2.1 x.2.2.2 == 5)) = true := by decide +kernel
theorem zxc_314 : zo_314.all (zRowOk 314) = true := zrow_of (by decide +kernel) (by decide +kernel)
theorem zxw_314 : ∀ w ∈ zo_314.flatMap (zNds 314), zWd w := zmem_ok (zcl_314.trans zcl_310.symm) zkw_29 [9] _ (by decide +kernel)
theorem zxb_314 : zo_314.all (fun x => decide (x.2.2.2 < 5000) && !(zKd x.2.1 x.2.2.1 x.2.2.2 == 5)) = true := by decide +kernel
theorem zxv_314_18 (l : Launch) : zVr l zi 314 18 (.invokevirtual 310) 1 5000 := ⟨zDcd_ok (by decide +kernel), zPls_ok [1224, 1225, 1226, 1227, 1228, 1229] (by decide +kernel) (by decide +kernel)⟩
theorem zxv_314_21 (l : Launch) : zVr l zi 314 21 (.checkcast 311) 101 5000 := ⟨zDcd_ok (by decide +kernel), zPls_ok [1230] (by decide +kernel) (by decide +kernel)⟩
theorem zxc_315 : zo_315.all (zRowOk 315) = true := zrow_of (by decide +kernel) (by decide +kernel)
theorem zxw_315 : ∀ w ∈ zo_315.flatMap (zNds 315), zWd w := zmem_ok (zcl_315.trans zcl_310.symm) zkw_29 [10, 3, 2] _ (by decide +kernel)
theorem zxb_315 : zo_315.all (fun x => decide (x.2.2.2 < 5000) && !(zKd x.2.1 x.2.2.1 x.2.2.2 == 5)) = true := by decide +kernel
theorem zxv_315_27 (l : Launch) : zVr l zi 315 27 (.invokestatic 150) 0 5000 := ⟨zDcd_ok (by decide +kernel), zPls_ok [1232, 1234, 1233, 101] (by decide +kernel) (by decide +kernel)⟩
theorem zxc_318 : zo_318.all (zRowOk 318) = true := zrow_of (by decide +kernel) (by decide +kernel)
theorem zxw_318 : ∀ w ∈ zo_318.flatMap (zNds 318), zWd w := zmem_ok (zcl_318.trans zcl_317.symm) zkw_27 [1, 1] _ (by decide +kernel)
theorem zxb_318 : zo_318.all (fun x => decide (x.2.2.2 < 5000) && !(zKd x.2.1 x.2.2.1 x.2.2.2 == 5)) = true := by decide +kernel
theorem zxc_319 : zo_319.all (zRowOk 319) = true := zrow_of (by decide +kernel) (by decide +kernel)
theorem zxw_319 : ∀ w ∈ zo_319.flatMap (zNds 319), zWd w := zmem_ok (zcl_319.trans zcl_319.symm) zkw_30 [] _ (by decide +kernel)
theorem zxb_319 : zo_319.all (fun x => decide (x.2.2.2 < 5000) && !(zKd x.2.1 x.2.2.1 x.2.2.2 == 5)) = true := by decide +kernel
theorem zxc_320 : zo_320.all (zRowOk 320) = true := zrow_of (by decide +kernel) (by decide +kernel)
theorem zxw_320 : ∀ w ∈ zo_320.flatMap (zNds 320), zWd w := zmem_ok (zcl_320.trans zcl_319.symm) zkw_30 [] _ (by decide +kernel)
theorem zxb_320 : zo_320.all (fun x => decide (x.2.2.2 < 5000) && !(zKd x.2.1 x.2.2.1 x.2.2.2 == 5)) = true := by decide +kernel
theorem zxc_321 : zo_321.all (zRowOk 321) = true := zrow_of (by decide +kernel) (by decide +kernel)
theorem zxw_321 : ∀ w ∈ zo_321.flatMap (zNds 321), zWd w := zmem_ok (zcl_321.trans zcl_319.symm) zkw_30 [] _ (by decide +kernel)
theorem zxb_321 : zo_321.all (fun x => decide (x.2.2.2 < 5000) && !(zKd x.2.1 x.2.2.1 x.2.2.2 == 5)) = true := by decide +kernel

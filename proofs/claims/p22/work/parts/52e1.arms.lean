/-! ===== the arms of the law's switch ===== -/
theorem lB_e_864 : chk zrx zi wT (wRo wSites_15) (wRo wTags_15) lC_e lWr 1152 17920 15 3000 false lH_e none 57 243 864 lM_e lK = true := by decide +kernel
theorem lB_e_892 : chk zrx zi wT (wRo wSites_15) (wRo wTags_15) lC_e lWr 1152 17920 15 3000 false lH_e none 57 243 892 lM_e lK = true := by decide +kernel
theorem lB_e_920 : chk zrx zi wT (wRo wSites_15) (wRo wTags_15) lC_e lWr 1152 17920 15 3000 false lH_e none 57 243 920 lM_e lK = true := by decide +kernel
theorem lB_e_960 : chk zrx zi wT (wRo wSites_15) (wRo wTags_15) lC_e lWr 1152 17920 15 3000 false lH_e none 57 243 960 lM_e lK = true := by decide +kernel
theorem lB_e_1000 : chk zrx zi wT (wRo wSites_15) (wRo wTags_15) lC_e lWr 1152 17920 15 3000 false lH_e none 57 243 1000 lM_e lK = true := by decide +kernel
theorem lB_e_1028 : chk zrx zi wT (wRo wSites_15) (wRo wTags_15) lC_e lWr 1152 17920 15 3000 false lH_e none 57 243 1028 lM_e lK = true := by decide +kernel
theorem lB_e_1056 : chk zrx zi wT (wRo wSites_15) (wRo wTags_15) lC_e lWr 1152 17920 15 3000 false lH_e none 57 243 1056 lM_e lK = true := by decide +kernel
theorem lB_e_1138 : chk zrx zi wT (wRo wSites_15) (wRo wTags_15) lC_e lWr 1152 17920 15 3000 false lH_e none 57 243 1138 lM_e lK = true := by decide +kernel
theorem lB_e_1178 : chk zrx zi wT (wRo wSites_15) (wRo wTags_15) lC_e lWr 1152 17920 15 3000 false lH_e none 57 243 1178 lM_e lK = true := by decide +kernel
theorem lB_e_1218 : chk zrx zi wT (wRo wSites_15) (wRo wTags_15) lC_e lWr 1152 17920 15 3000 false lH_e none 57 243 1218 lM_e lK = true := by decide +kernel
theorem lB_e_1258 : chk zrx zi wT (wRo wSites_15) (wRo wTags_15) lC_e lWr 1152 17920 15 3000 false lH_e none 57 243 1258 lM_e lK = true := by decide +kernel
theorem lB_e_1298 : chk zrx zi wT (wRo wSites_15) (wRo wTags_15) lC_e lWr 1152 17920 15 3000 false lH_e none 57 243 1298 lM_e lK = true := by decide +kernel

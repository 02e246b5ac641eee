/-! ===== the arms of the law's switch ===== -/
theorem lB_e_864 : chk zrx zi wT (wRo wSites_15) (wRo wTags_15) lC_e lWr 1152 17920 15 3000 false lH_e none 57 243 864 lM_e lK = true := by decide +kernel
theorem lB_e_892 : chk zrx zi wT (wRo wSites_15) (wRo wTags_15) lC_e lWr 1152 17920 15 3000 false lH_e none 57 243 892 lM_e lK = true := by decide +kernel
theorem lB_e_920 : chk zrx zi wT (wRo wSites_15) (wRo wTags_15) lC_e lWr 1152 17920 15 3000 false lH_e none 57 243 920 lM_e lK = true := by decide +kernel
theorem lB_e_960 : chk zrx zi wT (wRo wSites_15) (wRo wTags_15) lC_e lWr 1152 17920 15 3000 false lH_e none 57 243 960 lM_e lK = true := by decide +kernel
theorem lB_e_1000 : chk zrx zi wT (wRo wSites_15) (wRo wTags_15) lC_e lWr 1152 17920 15 3000 false lH_e none 57 243 1000 lM_e lK = true := by decide +kernel
theorem lB_e_1056 : chk zrx zi wT (wRo wSites_15) (wRo wTags_15) lC_e lWr 1152 17920 15 3000 false lH_e none 57 243 1056 lM_e lK = true := by decide +kernel
theorem lB_e_1069 : chk zrx zi wT (wRo wSites_15) (wRo wTags_15) lC_e lWr 1152 17920 15 3000 false lH_e none 57 243 1069 lM_e lK = true := by decide +kernel
theorem lB_e_1109 : chk zrx zi wT (wRo wSites_15) (wRo wTags_15) lC_e lWr 1152 17920 15 3000 false lH_e none 57 243 1109 lM_e lK = true := by decide +kernel
theorem lB_e_1149 : chk zrx zi wT (wRo wSites_15) (wRo wTags_15) lC_e lWr 1152 17920 15 3000 false lH_e none 57 243 1149 lM_e lK = true := by decide +kernel
theorem lB_e_1189 : chk zrx zi wT (wRo wSites_15) (wRo wTags_15) lC_e lWr 1152 17920 15 3000 false lH_e none 57 243 1189 lM_e lK = true := by decide +kernel
theorem lB_e_1229 : chk zrx zi wT (wRo wSites_15) (wRo wTags_15) lC_e lWr 1152 17920 15 3000 false lH_e none 57 243 1229 lM_e lK = true := by decide +kernel
theorem lB_e_1269 : chk zrx zi wT (wRo wSites_15) (wRo wTags_15) lC_e lWr 1152 17920 15 3000 false lH_e none 57 243 1269 lM_e lK = true := by decide +kernel

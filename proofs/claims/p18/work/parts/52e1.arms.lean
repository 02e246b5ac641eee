/-! ===== the arms of the law's switch ===== -/
theorem lB_e_1085 : chk zrx zi wT (wRo wSites_15) (wRo wTags_15) lC_e lWr 1152 17920 15 3000 false lH_e none 57 243 1085 lM_e lK = true := by decide +kernel
theorem lB_e_1098 : chk zrx zi wT (wRo wSites_15) (wRo wTags_15) lC_e lWr 1152 17920 15 3000 false lH_e none 57 243 1098 lM_e lK = true := by decide +kernel
theorem lB_e_1138 : chk zrx zi wT (wRo wSites_15) (wRo wTags_15) lC_e lWr 1152 17920 15 3000 false lH_e none 57 243 1138 lM_e lK = true := by decide +kernel
theorem lB_e_1178 : chk zrx zi wT (wRo wSites_15) (wRo wTags_15) lC_e lWr 1152 17920 15 3000 false lH_e none 57 243 1178 lM_e lK = true := by decide +kernel
theorem lB_e_1218 : chk zrx zi wT (wRo wSites_15) (wRo wTags_15) lC_e lWr 1152 17920 15 3000 false lH_e none 57 243 1218 lM_e lK = true := by decide +kernel
theorem lB_e_1258 : chk zrx zi wT (wRo wSites_15) (wRo wTags_15) lC_e lWr 1152 17920 15 3000 false lH_e none 57 243 1258 lM_e lK = true := by decide +kernel
theorem lB_e_1298 : chk zrx zi wT (wRo wSites_15) (wRo wTags_15) lC_e lWr 1152 17920 15 3000 false lH_e none 57 243 1298 lM_e lK = true := by decide +kernel

/-! ===== the arms of the law's switch ===== -/
theorem lB_f_864 : chk zrx zi wT (wRo wSites_15) (wRo wTags_15) lC_f lWr 1152 17920 15 3000 false lH_f none 57 243 864 lM_f lK = true := by decide +kernel
theorem lB_f_892 : chk zrx zi wT (wRo wSites_15) (wRo wTags_15) lC_f lWr 1152 17920 15 3000 false lH_f none 57 243 892 lM_f lK = true := by decide +kernel
theorem lB_f_920 : chk zrx zi wT (wRo wSites_15) (wRo wTags_15) lC_f lWr 1152 17920 15 3000 false lH_f none 57 243 920 lM_f lK = true := by decide +kernel
theorem lB_f_960 : chk zrx zi wT (wRo wSites_15) (wRo wTags_15) lC_f lWr 1152 17920 15 3000 false lH_f none 57 243 960 lM_f lK = true := by decide +kernel
theorem lB_f_1000 : chk zrx zi wT (wRo wSites_15) (wRo wTags_15) lC_f lWr 1152 17920 15 3000 false lH_f none 57 243 1000 lM_f lK = true := by decide +kernel
theorem lB_f_1028 : chk zrx zi wT (wRo wSites_15) (wRo wTags_15) lC_f lWr 1152 17920 15 3000 false lH_f none 57 243 1028 lM_f lK = true := by decide +kernel
theorem lB_f_1056 : chk zrx zi wT (wRo wSites_15) (wRo wTags_15) lC_f lWr 1152 17920 15 3000 false lH_f none 57 243 1056 lM_f lK = true := by decide +kernel
theorem lB_f_1138 : chk zrx zi wT (wRo wSites_15) (wRo wTags_15) lC_f lWr 1152 17920 15 3000 false lH_f none 57 243 1138 lM_f lK = true := by decide +kernel
theorem lB_f_1178 : chk zrx zi wT (wRo wSites_15) (wRo wTags_15) lC_f lWr 1152 17920 15 3000 false lH_f none 57 243 1178 lM_f lK = true := by decide +kernel
theorem lB_f_1218 : chk zrx zi wT (wRo wSites_15) (wRo wTags_15) lC_f lWr 1152 17920 15 3000 false lH_f none 57 243 1218 lM_f lK = true := by decide +kernel
theorem lB_f_1258 : chk zrx zi wT (wRo wSites_15) (wRo wTags_15) lC_f lWr 1152 17920 15 3000 false lH_f none 57 243 1258 lM_f lK = true := by decide +kernel
theorem lB_f_1298 : chk zrx zi wT (wRo wSites_15) (wRo wTags_15) lC_f lWr 1152 17920 15 3000 false lH_f none 57 243 1298 lM_f lK = true := by decide +kernel

/-! ===== the arms of the law's switch ===== -/
theorem lB_f_864 : chk zrx zi wT (wRo wSites_15) (wRo wTags_15) lC_f lWr 1152 17920 15 3000 false lH_f none 57 243 864 lM_f lK = true := by decide +kernel
theorem lB_f_892 : chk zrx zi wT (wRo wSites_15) (wRo wTags_15) lC_f lWr 1152 17920 15 3000 false lH_f none 57 243 892 lM_f lK = true := by decide +kernel
theorem lB_f_920 : chk zrx zi wT (wRo wSites_15) (wRo wTags_15) lC_f lWr 1152 17920 15 3000 false lH_f none 57 243 920 lM_f lK = true := by decide +kernel
theorem lB_f_960 : chk zrx zi wT (wRo wSites_15) (wRo wTags_15) lC_f lWr 1152 17920 15 3000 false lH_f none 57 243 960 lM_f lK = true := by decide +kernel
theorem lB_f_1000 : chk zrx zi wT (wRo wSites_15) (wRo wTags_15) lC_f lWr 1152 17920 15 3000 false lH_f none 57 243 1000 lM_f lK = true := by decide +kernel
theorem lB_f_1056 : chk zrx zi wT (wRo wSites_15) (wRo wTags_15) lC_f lWr 1152 17920 15 3000 false lH_f none 57 243 1056 lM_f lK = true := by decide +kernel
theorem lB_f_1069 : chk zrx zi wT (wRo wSites_15) (wRo wTags_15) lC_f lWr 1152 17920 15 3000 false lH_f none 57 243 1069 lM_f lK = true := by decide +kernel
theorem lB_f_1109 : chk zrx zi wT (wRo wSites_15) (wRo wTags_15) lC_f lWr 1152 17920 15 3000 false lH_f none 57 243 1109 lM_f lK = true := by decide +kernel
theorem lB_f_1149 : chk zrx zi wT (wRo wSites_15) (wRo wTags_15) lC_f lWr 1152 17920 15 3000 false lH_f none 57 243 1149 lM_f lK = true := by decide +kernel
theorem lB_f_1189 : chk zrx zi wT (wRo wSites_15) (wRo wTags_15) lC_f lWr 1152 17920 15 3000 false lH_f none 57 243 1189 lM_f lK = true := by decide +kernel
theorem lB_f_1229 : chk zrx zi wT (wRo wSites_15) (wRo wTags_15) lC_f lWr 1152 17920 15 3000 false lH_f none 57 243 1229 lM_f lK = true := by decide +kernel
theorem lB_f_1269 : chk zrx zi wT (wRo wSites_15) (wRo wTags_15) lC_f lWr 1152 17920 15 3000 false lH_f none 57 243 1269 lM_f lK = true := by decide +kernel

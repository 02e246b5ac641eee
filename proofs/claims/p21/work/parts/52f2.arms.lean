/-! ===== the arms of the law's switch ===== -/
theorem lB_f_1309 : chk zrx zi wT (wRo wSites_15) (wRo wTags_15) lC_f lWr 1152 17920 15 3000 false lH_f none 57 242 1309 lM_f lK = true := by decide +kernel
theorem lB_f_1349 : chk zrx zi wT (wRo wSites_15) (wRo wTags_15) lC_f lWr 1152 17920 15 3000 false lH_f none 57 242 1349 lM_f lK = true := by decide +kernel
theorem lB_f_1401 : chk zrx zi wT (wRo wSites_15) (wRo wTags_15) lC_f lWr 1152 17920 15 3000 false lH_f none 57 242 1401 lM_f lK = true := by decide +kernel
theorem lB_f_1441 : chk zrx zi wT (wRo wSites_15) (wRo wTags_15) lC_f lWr 1152 17920 15 3000 false lH_f none 57 242 1441 lM_f lK = true := by decide +kernel
theorem lB_f_1469 : chk zrx zi wT (wRo wSites_15) (wRo wTags_15) lC_f lWr 1152 17920 15 3000 false lH_f none 57 242 1469 lM_f lK = true := by decide +kernel
theorem lB_f_1545 : chk zrx zi wT (wRo wSites_15) (wRo wTags_15) lC_f lWr 1152 17920 15 3000 false lH_f none 57 242 1545 lM_f lK = true := by decide +kernel
theorem lB_f_1560 : chk zrx zi wT (wRo wSites_15) (wRo wTags_15) lC_f lWr 1152 17920 15 3000 false lH_f none 57 242 1560 lM_f lK = true := by decide +kernel
theorem lB_f_1588 : chk zrx zi wT (wRo wSites_15) (wRo wTags_15) lC_f lWr 1152 17920 15 3000 false lH_f none 57 242 1588 lM_f lK = true := by decide +kernel
theorem lB_f_1616 : chk zrx zi wT (wRo wSites_15) (wRo wTags_15) lC_f lWr 1152 17920 15 3000 false lH_f none 57 242 1616 lM_f lK = true := by decide +kernel
theorem lB_f_1684 : chk zrx zi wT (wRo wSites_15) (wRo wTags_15) lC_f lWr 1152 17920 15 3000 false lH_f none 57 242 1684 lM_f lK = true := by decide +kernel
theorem lB_f_1724 : chk zrx zi wT (wRo wSites_15) (wRo wTags_15) lC_f lWr 1152 17920 15 3000 false lH_f none 57 242 1724 lM_f lK = true := by decide +kernel
theorem lB_f_1764 : chk zrx zi wT (wRo wSites_15) (wRo wTags_15) lC_f lWr 1152 17920 15 3000 false lH_f none 57 242 1764 lM_f lK = true := by decide +kernel
theorem lB_f_1777 : chk zrx zi wT (wRo wSites_15) (wRo wTags_15) lC_f lWr 1152 17920 15 3000 false lH_f none 57 242 1777 lM_f lK = true := by decide +kernel

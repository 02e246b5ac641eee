/-! ===== the arms of the law's switch ===== -/
theorem lB_f_1309 : chk zrx zi wT (wRo wSites_15) (wRo wTags_15) lC_f lWr 1152 17920 15 3000 false lH_f none 57 243 1309 lM_f lK = true := by decide +kernel
theorem lB_f_1349 : chk zrx zi wT (wRo wSites_15) (wRo wTags_15) lC_f lWr 1152 17920 15 3000 false lH_f none 57 243 1349 lM_f lK = true := by decide +kernel
theorem lB_f_1401 : chk zrx zi wT (wRo wSites_15) (wRo wTags_15) lC_f lWr 1152 17920 15 3000 false lH_f none 57 243 1401 lM_f lK = true := by decide +kernel
theorem lB_f_1441 : chk zrx zi wT (wRo wSites_15) (wRo wTags_15) lC_f lWr 1152 17920 15 3000 false lH_f none 57 243 1441 lM_f lK = true := by decide +kernel
theorem lB_f_1574 : chk zrx zi wT (wRo wSites_15) (wRo wTags_15) lC_f lWr 1152 17920 15 3000 false lH_f none 57 243 1574 lM_f lK = true := by decide +kernel
theorem lB_f_1589 : chk zrx zi wT (wRo wSites_15) (wRo wTags_15) lC_f lWr 1152 17920 15 3000 false lH_f none 57 243 1589 lM_f lK = true := by decide +kernel
theorem lB_f_1617 : chk zrx zi wT (wRo wSites_15) (wRo wTags_15) lC_f lWr 1152 17920 15 3000 false lH_f none 57 243 1617 lM_f lK = true := by decide +kernel
theorem lB_f_1645 : chk zrx zi wT (wRo wSites_15) (wRo wTags_15) lC_f lWr 1152 17920 15 3000 false lH_f none 57 243 1645 lM_f lK = true := by decide +kernel
theorem lB_f_1713 : chk zrx zi wT (wRo wSites_15) (wRo wTags_15) lC_f lWr 1152 17920 15 3000 false lH_f none 57 243 1713 lM_f lK = true := by decide +kernel
theorem lB_f_1753 : chk zrx zi wT (wRo wSites_15) (wRo wTags_15) lC_f lWr 1152 17920 15 3000 false lH_f none 57 243 1753 lM_f lK = true := by decide +kernel
theorem lB_f_1793 : chk zrx zi wT (wRo wSites_15) (wRo wTags_15) lC_f lWr 1152 17920 15 3000 false lH_f none 57 243 1793 lM_f lK = true := by decide +kernel
theorem lB_f_1806 : chk zrx zi wT (wRo wSites_15) (wRo wTags_15) lC_f lWr 1152 17920 15 3000 false lH_f none 57 243 1806 lM_f lK = true := by decide +kernel

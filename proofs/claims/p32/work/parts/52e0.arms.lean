/-! ===== the arms of the law's switch ===== -/
theorem lB_e_256 : chk zrx zi wT (wRo wSites_15) (wRo wTags_15) lC_e lWr 1152 17920 15 3000 false lH_e none 57 243 256 lM_e lK = true := by decide +kernel
theorem lB_e_308 : chk zrx zi wT (wRo wSites_15) (wRo wTags_15) lC_e lWr 1152 17920 15 3000 false lH_e none 57 243 308 lM_e lK = true := by decide +kernel
theorem lB_e_504 : chk zrx zi wT (wRo wSites_15) (wRo wTags_15) lC_e lWr 1152 17920 15 3000 false lH_e none 57 243 504 lM_e lK = true := by decide +kernel
theorem lB_e_608 : chk zrx zi wT (wRo wSites_15) (wRo wTags_15) lC_e lWr 1152 17920 15 3000 false lH_e none 57 243 608 lM_e lK = true := by decide +kernel
theorem lB_e_636 : chk zrx zi wT (wRo wSites_15) (wRo wTags_15) lC_e lWr 1152 17920 15 3000 false lH_e none 57 243 636 lM_e lK = true := by decide +kernel
theorem lB_e_652 : chk zrx zi wT (wRo wSites_15) (wRo wTags_15) lC_e lWr 1152 17920 15 3000 false lH_e none 57 243 652 lM_e lK = true := by decide +kernel
theorem lB_e_680 : chk zrx zi wT (wRo wSites_15) (wRo wTags_15) lC_e lWr 1152 17920 15 3000 false lH_e none 57 243 680 lM_e lK = true := by decide +kernel
theorem lB_e_732 : chk zrx zi wT (wRo wSites_15) (wRo wTags_15) lC_e lWr 1152 17920 15 3000 false lH_e none 57 243 732 lM_e lK = true := by decide +kernel
theorem lB_e_784 : chk zrx zi wT (wRo wSites_15) (wRo wTags_15) lC_e lWr 1152 17920 15 3000 false lH_e none 57 243 784 lM_e lK = true := by decide +kernel
theorem lB_e_824 : chk zrx zi wT (wRo wSites_15) (wRo wTags_15) lC_e lWr 1152 17920 15 3000 false lH_e none 57 243 824 lM_e lK = true := by decide +kernel

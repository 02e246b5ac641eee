/-! ===== the arms of the law's switch ===== -/
theorem lB_f_256 : chk zrx zi wT (wRo wSites_15) (wRo wTags_15) lC_f lWr 1152 17920 15 3000 false lH_f none 57 243 256 lM_f lK = true := by decide +kernel
theorem lB_f_308 : chk zrx zi wT (wRo wSites_15) (wRo wTags_15) lC_f lWr 1152 17920 15 3000 false lH_f none 57 243 308 lM_f lK = true := by decide +kernel
theorem lB_f_504 : chk zrx zi wT (wRo wSites_15) (wRo wTags_15) lC_f lWr 1152 17920 15 3000 false lH_f none 57 243 504 lM_f lK = true := by decide +kernel
theorem lB_f_608 : chk zrx zi wT (wRo wSites_15) (wRo wTags_15) lC_f lWr 1152 17920 15 3000 false lH_f none 57 243 608 lM_f lK = true := by decide +kernel
theorem lB_f_636 : chk zrx zi wT (wRo wSites_15) (wRo wTags_15) lC_f lWr 1152 17920 15 3000 false lH_f none 57 243 636 lM_f lK = true := by decide +kernel
theorem lB_f_652 : chk zrx zi wT (wRo wSites_15) (wRo wTags_15) lC_f lWr 1152 17920 15 3000 false lH_f none 57 243 652 lM_f lK = true := by decide +kernel
theorem lB_f_680 : chk zrx zi wT (wRo wSites_15) (wRo wTags_15) lC_f lWr 1152 17920 15 3000 false lH_f none 57 243 680 lM_f lK = true := by decide +kernel
theorem lB_f_732 : chk zrx zi wT (wRo wSites_15) (wRo wTags_15) lC_f lWr 1152 17920 15 3000 false lH_f none 57 243 732 lM_f lK = true := by decide +kernel
theorem lB_f_784 : chk zrx zi wT (wRo wSites_15) (wRo wTags_15) lC_f lWr 1152 17920 15 3000 false lH_f none 57 243 784 lM_f lK = true := by decide +kernel
theorem lB_f_824 : chk zrx zi wT (wRo wSites_15) (wRo wTags_15) lC_f lWr 1152 17920 15 3000 false lH_f none 57 243 824 lM_f lK = true := by decide +kernel

/-! ===== the arms of the law's switch ===== -/
theorem lB_f_216 : chk zrx zi wT (wRo wSites_15) (wRo wTags_15) lC_f lWr 1152 17920 15 3000 false lH_f none 57 243 216 lM_f lK = true := by decide +kernel
theorem lB_f_256 : chk zrx zi wT (wRo wSites_15) (wRo wTags_15) lC_f lWr 1152 17920 15 3000 false lH_f none 57 243 256 lM_f lK = true := by decide +kernel
theorem lB_f_308 : chk zrx zi wT (wRo wSites_15) (wRo wTags_15) lC_f lWr 1152 17920 15 3000 false lH_f none 57 243 308 lM_f lK = true := by decide +kernel
theorem lB_f_533 : chk zrx zi wT (wRo wSites_15) (wRo wTags_15) lC_f lWr 1152 17920 15 3000 false lH_f none 57 243 533 lM_f lK = true := by decide +kernel
theorem lB_f_637 : chk zrx zi wT (wRo wSites_15) (wRo wTags_15) lC_f lWr 1152 17920 15 3000 false lH_f none 57 243 637 lM_f lK = true := by decide +kernel
theorem lB_f_665 : chk zrx zi wT (wRo wSites_15) (wRo wTags_15) lC_f lWr 1152 17920 15 3000 false lH_f none 57 243 665 lM_f lK = true := by decide +kernel
theorem lB_f_681 : chk zrx zi wT (wRo wSites_15) (wRo wTags_15) lC_f lWr 1152 17920 15 3000 false lH_f none 57 243 681 lM_f lK = true := by decide +kernel
theorem lB_f_709 : chk zrx zi wT (wRo wSites_15) (wRo wTags_15) lC_f lWr 1152 17920 15 3000 false lH_f none 57 243 709 lM_f lK = true := by decide +kernel
theorem lB_f_761 : chk zrx zi wT (wRo wSites_15) (wRo wTags_15) lC_f lWr 1152 17920 15 3000 false lH_f none 57 243 761 lM_f lK = true := by decide +kernel
theorem lB_f_813 : chk zrx zi wT (wRo wSites_15) (wRo wTags_15) lC_f lWr 1152 17920 15 3000 false lH_f none 57 243 813 lM_f lK = true := by decide +kernel
theorem lB_f_853 : chk zrx zi wT (wRo wSites_15) (wRo wTags_15) lC_f lWr 1152 17920 15 3000 false lH_f none 57 243 853 lM_f lK = true := by decide +kernel

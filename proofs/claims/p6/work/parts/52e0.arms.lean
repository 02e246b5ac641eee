/-! ===== the arms of the law's switch ===== -/
theorem lB_e_216 : chk zrx zi wT (wRo wSites_15) (wRo wTags_15) lC_e lWr 1152 17920 15 3000 false lH_e none 57 243 216 lM_e lK = true := by decide +kernel
theorem lB_e_256 : chk zrx zi wT (wRo wSites_15) (wRo wTags_15) lC_e lWr 1152 17920 15 3000 false lH_e none 57 243 256 lM_e lK = true := by decide +kernel
theorem lB_e_308 : chk zrx zi wT (wRo wSites_15) (wRo wTags_15) lC_e lWr 1152 17920 15 3000 false lH_e none 57 243 308 lM_e lK = true := by decide +kernel
theorem lB_e_533 : chk zrx zi wT (wRo wSites_15) (wRo wTags_15) lC_e lWr 1152 17920 15 3000 false lH_e none 57 243 533 lM_e lK = true := by decide +kernel
theorem lB_e_637 : chk zrx zi wT (wRo wSites_15) (wRo wTags_15) lC_e lWr 1152 17920 15 3000 false lH_e none 57 243 637 lM_e lK = true := by decide +kernel
theorem lB_e_665 : chk zrx zi wT (wRo wSites_15) (wRo wTags_15) lC_e lWr 1152 17920 15 3000 false lH_e none 57 243 665 lM_e lK = true := by decide +kernel
theorem lB_e_681 : chk zrx zi wT (wRo wSites_15) (wRo wTags_15) lC_e lWr 1152 17920 15 3000 false lH_e none 57 243 681 lM_e lK = true := by decide +kernel
theorem lB_e_709 : chk zrx zi wT (wRo wSites_15) (wRo wTags_15) lC_e lWr 1152 17920 15 3000 false lH_e none 57 243 709 lM_e lK = true := by decide +kernel
theorem lB_e_761 : chk zrx zi wT (wRo wSites_15) (wRo wTags_15) lC_e lWr 1152 17920 15 3000 false lH_e none 57 243 761 lM_e lK = true := by decide +kernel
theorem lB_e_813 : chk zrx zi wT (wRo wSites_15) (wRo wTags_15) lC_e lWr 1152 17920 15 3000 false lH_e none 57 243 813 lM_e lK = true := by decide +kernel
theorem lB_e_853 : chk zrx zi wT (wRo wSites_15) (wRo wTags_15) lC_e lWr 1152 17920 15 3000 false lH_e none 57 243 853 lM_e lK = true := by decide +kernel

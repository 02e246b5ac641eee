/-! ===== the arms of the law's switch ===== -/
theorem lB_e_216 : chk zrx zi wT (wRo wSites_15) (wRo wTags_15) lC_e lWr 1152 17920 15 3000 false lH_e none 57 243 216 lM_e lK = true := by decide +kernel

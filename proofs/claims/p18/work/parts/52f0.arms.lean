/-! ===== the arms of the law's switch ===== -/
theorem lB_f_216 : chk zrx zi wT (wRo wSites_15) (wRo wTags_15) lC_f lWr 1152 17920 15 3000 false lH_f none 57 243 216 lM_f lK = true := by decide +kernel

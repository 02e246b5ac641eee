/-! ===== the marks, on ===== -/
theorem mk_3 : ((mk_H.drop (9 * 3)).take 9).all (cHdB zrx zi wT (wRo wSites_14) (wRo wTags_14) [] 3000 4 mk_H k_X15_marks) = true := by decide +kernel
theorem mk_4 : ((mk_H.drop (9 * 4)).take 9).all (cHdB zrx zi wT (wRo wSites_14) (wRo wTags_14) [] 3000 4 mk_H k_X15_marks) = true := by decide +kernel
theorem mk_5 : ((mk_H.drop (9 * 5)).take 9).all (cHdB zrx zi wT (wRo wSites_14) (wRo wTags_14) [] 3000 4 mk_H k_X15_marks) = true := by decide +kernel
theorem mk_6 : ((mk_H.drop (9 * 6)).take 9).all (cHdB zrx zi wT (wRo wSites_14) (wRo wTags_14) [] 3000 4 mk_H k_X15_marks) = true := by decide +kernel

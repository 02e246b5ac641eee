/-! ===== the marks, on ===== -/
theorem mk_7 : ((mk_H.drop (9 * 7)).take 9).all (cHdB zrx zi wT (wRo wSites_14) (wRo wTags_14) [] 3000 4 mk_H k_X15_marks) = true := by decide +kernel
theorem mk_8 : ((mk_H.drop (9 * 8)).take 9).all (cHdB zrx zi wT (wRo wSites_14) (wRo wTags_14) [] 3000 4 mk_H k_X15_marks) = true := by decide +kernel
theorem mk_9 : ((mk_H.drop (9 * 9)).take 9).all (cHdB zrx zi wT (wRo wSites_14) (wRo wTags_14) [] 3000 4 mk_H k_X15_marks) = true := by decide +kernel
theorem mk_10 : ((mk_H.drop (9 * 10)).take 9).all (cHdB zrx zi wT (wRo wSites_14) (wRo wTags_14) [] 3000 4 mk_H k_X15_marks) = true := by decide +kernel
theorem con_X15_marks : cHolds zrx zi wT k_X15_marks := by
  refine cCheck_ok (ro := wRo wSites_14) (tg := wRo wTags_14) (Cs := []) 3000 4 mk_H wT_ok cNil (cSplit mk_f (allChunk 9 11 mk_H (by decide +kernel) (fun i hi => ?_)))
  have q : i = 0 ∨ i = 1 ∨ i = 2 ∨ i = 3 ∨ i = 4 ∨ i = 5 ∨ i = 6 ∨ i = 7 ∨ i = 8 ∨ i = 9 ∨ i = 10 := by omega
  rcases q with rfl | rfl | rfl | rfl | rfl | rfl | rfl | rfl | rfl | rfl | rfl
  · exact mk_0
  · exact mk_1
  · exact mk_2
  · exact mk_3
  · exact mk_4
  · exact mk_5
  · exact mk_6
  · exact mk_7
  · exact mk_8
  · exact mk_9
  · exact mk_10

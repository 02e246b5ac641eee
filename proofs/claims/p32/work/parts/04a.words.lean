/-! ===== the words of the tables, and of each class its fields ===== -/
def zTyF : List (Nat → FieldType) := [tyJ0, tyJ4, tyJx4a65c, tyX0, tyX1, tyX2, tyX3, tyX4, tyX5, tyX6, tyX7, tyX8, tyX9, tyX10, tyX11, tyX12, tyX13, tyX14, tyX15]
def zFT (a k : Nat) : FieldType := (zTyF.getD a (fun _ => .int)) k
def zT : List Cond := lw_tbl.filter goodWord
theorem zT_of {w : Cond} (h : w ∈ lw_tbl ∧ ((w.onTables && w.keeps) = true ∨ ∃ ty, w = .arrayClass ty)) : w ∈ zT := by
  refine List.mem_filter.mpr ⟨h.1, ?_⟩
  rcases h.2 with q | ⟨ty, rfl⟩
  · cases w <;> first | rfl | exact q
  · rfl
theorem zT_tbl {w : Cond} (h : w ∈ zT) : w ∈ lw_tbl := (List.mem_filter.mp h).1
theorem zT_good : zT.all goodWord = true := List.all_eq_true.mpr fun _ h => (List.mem_filter.mp h).2
theorem zIn_0 : ∀ w ∈ u_ws RJ0 TJ0 4, w ∈ zT := fun w h => zT_of (goodIn_r (big := lw_tbl) (u_ws RJ0 TJ0 4) [1421, 1423, 1425, 1427] (by decide +kernel) (by decide +kernel) w h)
theorem zIn_1 : ∀ w ∈ u_ws RJ4 TJ4 4, w ∈ zT := fun w h => zT_of (goodIn_r (big := lw_tbl) (u_ws RJ4 TJ4 4) [1184, 1186, 1188, 1190] (by decide +kernel) (by decide +kernel) w h)
theorem zIn_2 : ∀ w ∈ u_ws RJx4a65c TJx4a65c 3, w ∈ zT := fun w h => zT_of (goodIn_r (big := lw_tbl) (u_ws RJx4a65c TJx4a65c 3) [1482, 1478, 1480] (by decide +kernel) (by decide +kernel) w h)
theorem zIn_3 : ∀ w ∈ u_ws RX0 TX0 6, w ∈ zT := fun w h => zT_of (goodIn_r (big := lw_tbl) (u_ws RX0 TX0 6) [287, 289, 291, 293, 295, 297] (by decide +kernel) (by decide +kernel) w h)
theorem zIn_4 : ∀ w ∈ u_ws RX1 TX1 11, w ∈ zT := fun w h => zT_of (goodIn_r (big := lw_tbl) (u_ws RX1 TX1 11) [245, 247, 249, 251, 253, 255, 257, 259, 261, 263, 265] (by decide +kernel) (by decide +kernel) w h)
theorem zIn_5 : ∀ w ∈ u_ws RX2 TX2 5, w ∈ zT := fun w h => zT_of (goodIn_r (big := lw_tbl) (u_ws RX2 TX2 5) [309, 311, 313, 315, 317] (by decide +kernel) (by decide +kernel) w h)
theorem zIn_6 : ∀ w ∈ u_ws RX3 TX3 3, w ∈ zT := fun w h => zT_of (goodIn_r (big := lw_tbl) (u_ws RX3 TX3 3) [187, 189, 191] (by decide +kernel) (by decide +kernel) w h)
theorem zIn_7 : ∀ w ∈ u_ws RX4 TX4 9, w ∈ zT := fun w h => zT_of (goodIn_r (big := lw_tbl) (u_ws RX4 TX4 9) [420, 422, 424, 426, 428, 430, 432, 434, 436] (by decide +kernel) (by decide +kernel) w h)
theorem zIn_8 : ∀ w ∈ u_ws RX5 TX5 3, w ∈ zT := fun w h => zT_of (goodIn_r (big := lw_tbl) (u_ws RX5 TX5 3) [369, 371, 373] (by decide +kernel) (by decide +kernel) w h)
theorem zIn_9 : ∀ w ∈ u_ws RX6 TX6 4, w ∈ zT := fun w h => zT_of (goodIn_r (big := lw_tbl) (u_ws RX6 TX6 4) [344, 346, 348, 350] (by decide +kernel) (by decide +kernel) w h)
theorem zIn_10 : ∀ w ∈ u_ws RX7 TX7 5, w ∈ zT := fun w h => zT_of (goodIn_r (big := lw_tbl) (u_ws RX7 TX7 5) [446, 448, 450, 452, 454] (by decide +kernel) (by decide +kernel) w h)
theorem zIn_11 : ∀ w ∈ u_ws RX8 TX8 1, w ∈ zT := fun w h => zT_of (goodIn_r (big := lw_tbl) (u_ws RX8 TX8 1) [355] (by decide +kernel) (by decide +kernel) w h)
theorem zIn_12 : ∀ w ∈ u_ws RX9 TX9 11, w ∈ zT := fun w h => zT_of (goodIn_r (big := lw_tbl) (u_ws RX9 TX9 11) [157, 159, 161, 163, 165, 167, 169, 171, 173, 175, 177] (by decide +kernel) (by decide +kernel) w h)
theorem zIn_13 : ∀ w ∈ u_ws RX10 TX10 14, w ∈ zT := fun w h => zT_of (goodIn_r (big := lw_tbl) (u_ws RX10 TX10 14) [472, 474, 476, 478, 480, 482, 484, 486, 488, 490, 492, 494, 496, 498] (by decide +kernel) (by decide +kernel) w h)
theorem zIn_14 : ∀ w ∈ u_ws RX11 TX11 2, w ∈ zT := fun w h => zT_of (goodIn_r (big := lw_tbl) (u_ws RX11 TX11 2) [825, 827] (by decide +kernel) (by decide +kernel) w h)
theorem zIn_15 : ∀ w ∈ u_ws RX12 TX12 12, w ∈ zT := fun w h => zT_of (goodIn_r (big := lw_tbl) (u_ws RX12 TX12 12) [1822, 1824, 1826, 1828, 1830, 1832, 1834, 1836, 1838, 1840, 1842, 1844] (by decide +kernel) (by decide +kernel) w h)
theorem zIn_16 : ∀ w ∈ u_ws RX13 TX13 9, w ∈ zT := fun w h => zT_of (goodIn_r (big := lw_tbl) (u_ws RX13 TX13 9) [1756, 1758, 1760, 1762, 1764, 1766, 1768, 1770, 1772] (by decide +kernel) (by decide +kernel) w h)
theorem zIn_17 : ∀ w ∈ u_ws RX14 TX14 10, w ∈ zT := fun w h => zT_of (goodIn_r (big := lw_tbl) (u_ws RX14 TX14 10) [1604, 1606, 1608, 1610, 1612, 1614, 1616, 1618, 1620, 1622] (by decide +kernel) (by decide +kernel) w h)
theorem zIn_18 : ∀ w ∈ u_ws RX15 TX15 18, w ∈ zT := fun w h => zT_of (goodIn_r (big := lw_tbl) (u_ws RX15 TX15 18) [1504, 1506, 1508, 1510, 1512, 1514, 1516, 1518, 1520, 1522, 1524, 1526, 1528, 1530, 1532, 1534, 1536, 1538] (by decide +kernel) (by decide +kernel) w h)
theorem zIn : ∀ (a : Nat) (r : vw_C), vwCl[a]? = some r → ∀ w ∈ u_ws r.1 r.2.1 r.2.2, w ∈ zT
  | 0, _, h => by cases h; exact zIn_0
  | 1, _, h => by cases h; exact zIn_1
  | 2, _, h => by cases h; exact zIn_2
  | 3, _, h => by cases h; exact zIn_3
  | 4, _, h => by cases h; exact zIn_4
  | 5, _, h => by cases h; exact zIn_5
  | 6, _, h => by cases h; exact zIn_6
  | 7, _, h => by cases h; exact zIn_7
  | 8, _, h => by cases h; exact zIn_8
  | 9, _, h => by cases h; exact zIn_9
  | 10, _, h => by cases h; exact zIn_10
  | 11, _, h => by cases h; exact zIn_11
  | 12, _, h => by cases h; exact zIn_12
  | 13, _, h => by cases h; exact zIn_13
  | 14, _, h => by cases h; exact zIn_14
  | 15, _, h => by cases h; exact zIn_15
  | 16, _, h => by cases h; exact zIn_16
  | 17, _, h => by cases h; exact zIn_17
  | 18, _, h => by cases h; exact zIn_18
  | n + 19, _, h => by simp [vwCl] at h
theorem zTyOk : ∀ (a : Nat) (r : vw_C), vwCl[a]? = some r → ∀ k, k < r.2.2 → parseFieldDescriptor (r.2.1 k).2.2.1 = some (zFT a k)
  | 0, _, h => by cases h; exact tyJ0_ok
  | 1, _, h => by cases h; exact tyJ4_ok
  | 2, _, h => by cases h; exact tyJx4a65c_ok
  | 3, _, h => by cases h; exact tyX0_ok
  | 4, _, h => by cases h; exact tyX1_ok
  | 5, _, h => by cases h; exact tyX2_ok
  | 6, _, h => by cases h; exact tyX3_ok
  | 7, _, h => by cases h; exact tyX4_ok
  | 8, _, h => by cases h; exact tyX5_ok
  | 9, _, h => by cases h; exact tyX6_ok
  | 10, _, h => by cases h; exact tyX7_ok
  | 11, _, h => by cases h; exact tyX8_ok
  | 12, _, h => by cases h; exact tyX9_ok
  | 13, _, h => by cases h; exact tyX10_ok
  | 14, _, h => by cases h; exact tyX11_ok
  | 15, _, h => by cases h; exact tyX12_ok
  | 16, _, h => by cases h; exact tyX13_ok
  | 17, _, h => by cases h; exact tyX14_ok
  | 18, _, h => by cases h; exact tyX15_ok
  | n + 19, _, h => by simp [vwCl] at h
theorem zNap : ∀ (a : Nat) (r : vw_C), vwCl[a]? = some r → ∀ a, a < r.2.2 → ∀ b, b < r.2.2 → a ≠ b → (r.2.1 a).2.1 ≠ (r.2.1 b).2.1
  | 0, _, h => by cases h; exact nmJ0
  | 1, _, h => by cases h; exact nmJ4
  | 2, _, h => by cases h; exact nmJx4a65c
  | 3, _, h => by cases h; exact nmX0
  | 4, _, h => by cases h; exact nmX1
  | 5, _, h => by cases h; exact nmX2
  | 6, _, h => by cases h; exact nmX3
  | 7, _, h => by cases h; exact nmX4
  | 8, _, h => by cases h; exact nmX5
  | 9, _, h => by cases h; exact nmX6
  | 10, _, h => by cases h; exact nmX7
  | 11, _, h => by cases h; exact nmX8
  | 12, _, h => by cases h; exact nmX9
  | 13, _, h => by cases h; exact nmX10
  | 14, _, h => by cases h; exact nmX11
  | 15, _, h => by cases h; exact nmX12
  | 16, _, h => by cases h; exact nmX13
  | 17, _, h => by cases h; exact nmX14
  | 18, _, h => by cases h; exact nmX15
  | n + 19, _, h => by simp [vwCl] at h

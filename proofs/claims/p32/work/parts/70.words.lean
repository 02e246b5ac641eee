/-! ===== the law's start: the words and the premises that it rests on ===== -/
theorem zInst : ∀ (a : Nat) (r : vw_C), vwCl[a]? = some r → ∃ n, Cond.instantiable r.1 n ∈ zT
  | 0, _, h => by cases h; exact ⟨4, zWd_T (zPls_ok (l := [.instantiable RJ0 4]) [1330] (by decide +kernel) (by decide +kernel) _ List.mem_cons_self) rfl⟩
  | 1, _, h => by cases h; exact ⟨4, zWd_T (zPls_ok (l := [.instantiable RJ4 4]) [1163] (by decide +kernel) (by decide +kernel) _ List.mem_cons_self) rfl⟩
  | 2, _, h => by cases h; exact ⟨3, zWd_T (zPls_ok (l := [.instantiable RJx4a65c 3]) [1460] (by decide +kernel) (by decide +kernel) _ List.mem_cons_self) rfl⟩
  | 3, _, h => by cases h; exact ⟨6, zWd_T (zPls_ok (l := [.instantiable RX0 6]) [202] (by decide +kernel) (by decide +kernel) _ List.mem_cons_self) rfl⟩
  | 4, _, h => by cases h; exact ⟨11, zWd_T (zPls_ok (l := [.instantiable RX1 11]) [208] (by decide +kernel) (by decide +kernel) _ List.mem_cons_self) rfl⟩
  | 5, _, h => by cases h; exact ⟨5, zWd_T (zPls_ok (l := [.instantiable RX2 5]) [195] (by decide +kernel) (by decide +kernel) _ List.mem_cons_self) rfl⟩
  | 6, _, h => by cases h; exact ⟨3, zWd_T (zPls_ok (l := [.instantiable RX3 3]) [124] (by decide +kernel) (by decide +kernel) _ List.mem_cons_self) rfl⟩
  | 7, _, h => by cases h; exact ⟨9, zWd_T (zPls_ok (l := [.instantiable RX4 9]) [383] (by decide +kernel) (by decide +kernel) _ List.mem_cons_self) rfl⟩
  | 8, _, h => by cases h; exact ⟨3, zWd_T (zPls_ok (l := [.instantiable RX5 3]) [359] (by decide +kernel) (by decide +kernel) _ List.mem_cons_self) rfl⟩
  | 9, _, h => by cases h; exact ⟨4, zWd_T (zPls_ok (l := [.instantiable RX6 4]) [328] (by decide +kernel) (by decide +kernel) _ List.mem_cons_self) rfl⟩
  | 10, _, h => by cases h; exact ⟨5, zWd_T (zPls_ok (l := [.instantiable RX7 5]) [377] (by decide +kernel) (by decide +kernel) _ List.mem_cons_self) rfl⟩
  | 11, _, h => by cases h; exact ⟨1, zWd_T (zPls_ok (l := [.instantiable RX8 1]) [321] (by decide +kernel) (by decide +kernel) _ List.mem_cons_self) rfl⟩
  | 12, _, h => by cases h; exact ⟨11, zWd_T (zPls_ok (l := [.instantiable RX9 11]) [131] (by decide +kernel) (by decide +kernel) _ List.mem_cons_self) rfl⟩
  | 13, _, h => by cases h; exact ⟨14, zWd_T (zPls_ok (l := [.instantiable RX10 14]) [112] (by decide +kernel) (by decide +kernel) _ List.mem_cons_self) rfl⟩
  | 14, _, h => by cases h; exact ⟨2, zWd_T (zPls_ok (l := [.instantiable RX11 2]) [818] (by decide +kernel) (by decide +kernel) _ List.mem_cons_self) rfl⟩
  | 15, _, h => by cases h; exact ⟨12, zWd_T (zPls_ok (l := [.instantiable RX12 12]) [1794] (by decide +kernel) (by decide +kernel) _ List.mem_cons_self) rfl⟩
  | 16, _, h => by cases h; exact ⟨9, zWd_T (zPls_ok (l := [.instantiable RX13 9]) [1724] (by decide +kernel) (by decide +kernel) _ List.mem_cons_self) rfl⟩
  | 17, _, h => by cases h; exact ⟨10, zWd_T (zPls_ok (l := [.instantiable RX14 10]) [1579] (by decide +kernel) (by decide +kernel) _ List.mem_cons_self) rfl⟩
  | 18, _, h => by cases h; exact ⟨18, zWd_T (zPls_ok (l := [.instantiable RX15 18]) [1453] (by decide +kernel) (by decide +kernel) _ List.mem_cons_self) rfl⟩
  | n + 19, _, h => by simp [vwCl] at h
theorem zCasts : ∀ w ∈ vwCl.map (fun r => Cond.castable r.1 "java/lang/Object"), w ∈ lw_tbl := fun w hw => zWd_L (zPls_ok (l := vwCl.map (fun r => Cond.castable r.1 "java/lang/Object")) [2192, 2191, 2184, 2174, 2179, 2178, 2177, 2172, 2181, 2175, 2182, 2180, 2173, 2176, 2185, 2193, 2190, 2189, 2183] (by decide +kernel) (by decide +kernel) w hw)
def zFwl : List Cond := zIm.flatMap (fun x => [.declares (zLi x.1 x.2), .interfaceMethod "java/util/List" "java/util/List" x.1 x.2, .publicMethod (zAr x.1 x.2), .unhidden "java/util/ArrayList" x.1 x.2, .castable "java/util/ArrayList" "java/util/List"])
theorem zFwl_in : ∀ w ∈ zFwl, w ∈ lw_tbl := fun w hw => by
  have h : zFwl = zPls [1571, 1570, 1576, 1574, 1572, 1628, 1627, 1632, 1630, 1572, 1695, 1694, 1699, 1697, 1572, 1904, 1903, 1908, 1906, 1572] := by decide +kernel
  rw [h] at hw
  obtain ⟨i, -, hi⟩ := List.mem_filterMap.mp hw
  exact List.mem_of_getElem? hi
def zStl : List Cond := [.laysStatic Bundle.tN "UNASSIGNED_STACK" Bundle.steD, .laysStatic Bundle.tN "SUPPRESSED_SENTINEL" Bundle.listD, .initialized Bundle.tN, .stringRef zCh 408 (zMt 0), .stringRef zCh 415 (zMt 1), .stringRef zCh 420 (zMt 2)]
theorem zStl_in : ∀ w ∈ zStl, w ∈ lw_tbl := fun w hw => by
  have h : zStl = zPls [581, 583, 89, 711, 595, 873] := by decide +kernel
  rw [h] at hw
  obtain ⟨i, -, hi⟩ := List.mem_filterMap.mp hw
  exact List.mem_of_getElem? hi
def zKnl : List Cond := [.laysStatic "java/lang/String" "COMPACT_STRINGS" "Z", .initialized "java/lang/String", .laysStatic "jdk/internal/util/Preconditions" "SIOOBE_FORMATTER" "Ljava/util/function/BiFunction;", .initialized "jdk/internal/util/Preconditions", .laysStatic "java/util/ArrayList" "DEFAULTCAPACITY_EMPTY_ELEMENTDATA" "[Ljava/lang/Object;", .initialized "java/util/ArrayList", .laysStatic "java/lang/Integer" "DigitTens" "[B", .laysStatic "java/lang/Integer" "DigitOnes" "[B", .initialized "java/lang/Integer", .stringRef "OnecodeChanceryModel" 34 ""]
theorem zKnl_in : ∀ w ∈ zKnl, w ∈ lw_tbl := fun w hw => by
  have h : zKnl = zPls [1172, 105, 1263, 103, 1472, 87, 1304, 1302, 96, 1485] := by decide +kernel
  rw [h] at hw
  obtain ⟨i, -, hi⟩ := List.mem_filterMap.mp hw
  exact List.mem_of_getElem? hi
abbrev zFl : List Cond := flatC (Jvm.Cond.and given_1 narrow_1)
def zFp (ps : List Nat) : List Cond := ps.filterMap (fun i => zFl[i]?)
theorem zFp_in {l : List Cond} (ps : List Nat) (h : l = zFp ps) : ∀ w ∈ l, w ∈ zFl := fun w hw => by
  rw [h] at hw
  obtain ⟨i, -, hi⟩ := List.mem_filterMap.mp hw
  exact List.mem_of_getElem? hi
def zFk : List Cond := [.isRef (.static "java/lang/Throwable" "UNASSIGNED_STACK" "[Ljava/lang/StackTraceElement;"), .isRef (.static "java/lang/Throwable" "SUPPRESSED_SENTINEL" "Ljava/util/List;"), .exactly (.string "OnecodeChancery" 408) "java/lang/String", .exactly (.string "OnecodeChancery" 415) "java/lang/String", .exactly (.string "OnecodeChancery" 420) "java/lang/String", .eq (.static "java/lang/String" "COMPACT_STRINGS" "Z") (.int 1), .isRef (.static "jdk/internal/util/Preconditions" "SIOOBE_FORMATTER" "Ljava/util/function/BiFunction;"), .arrayOf (.static "java/util/ArrayList" "DEFAULTCAPACITY_EMPTY_ELEMENTDATA" "[Ljava/lang/Object;") (.object "java/lang/Object"), .eq (.length (.static "java/util/ArrayList" "DEFAULTCAPACITY_EMPTY_ELEMENTDATA" "[Ljava/lang/Object;")) (.int 0), .arrayOf (.static "java/lang/Integer" "DigitTens" "[B") .byte, .eq (.length (.static "java/lang/Integer" "DigitTens" "[B")) (.int 100), .arrayOf (.static "java/lang/Integer" "DigitOnes" "[B") .byte, .eq (.length (.static "java/lang/Integer" "DigitOnes" "[B")) (.int 100), .isRef (.mirror "[Ljava/lang/Object;"), .exactly (.string "OnecodeChanceryModel" 34) "java/lang/String", .eq (.field (.string "OnecodeChanceryModel" 34) "java/lang/String" "coder" "B") (.int 0), .arrayOf (.field (.string "OnecodeChanceryModel" 34) "java/lang/String" "value" "[B") .byte, .eq (.length (.field (.string "OnecodeChanceryModel" 34) "java/lang/String" "value" "[B")) (.int 0)]
theorem zFk_in : ∀ w ∈ zFk, w ∈ zFl := zFp_in [4, 5, 406, 373, 434, 6, 7, 218, 220, 115, 116, 12, 13, 372, 487, 488, 489, 490] (by decide +kernel)
def zFn : List Cond := [(0, 1), (0, 2), (1, 0), (1, 2), (2, 0), (2, 1)].map (fun x => Cond.not (.castable (zEx x.1) (zEx x.2)))
theorem zFn_in : ∀ w ∈ zFn, w ∈ zFl := zFp_in [256, 277, 235, 278, 236, 257] (by decide +kernel)
theorem zFt_in : ∀ j : Nat, j < 100 → Cond.eq (.elem (.static "java/lang/Integer" "DigitTens" "[B") (.int (Int32.ofNat j))) (.int (Int32.ofNat (48 + j / 10))) ∈ zFl := fun j hj =>
  zFp_in (l := (List.range 100).map (fun j => Cond.eq (.elem (.static "java/lang/Integer" "DigitTens" "[B") (.int (Int32.ofNat j))) (.int (Int32.ofNat (48 + j / 10))))) [117, 118, 119, 120, 121, 122, 123, 124, 125, 126, 127, 128, 129, 130, 131, 132, 133, 134, 135, 136, 137, 138, 139, 140, 141, 142, 143, 144, 145, 146, 147, 148, 149, 150, 151, 152, 153, 154, 155, 156, 157, 158, 159, 160, 161, 162, 163, 164, 165, 166, 167, 168, 169, 170, 171, 172, 173, 174, 175, 176, 177, 178, 179, 180, 181, 182, 183, 184, 185, 186, 187, 188, 189, 190, 191, 192, 193, 194, 195, 196, 197, 198, 199, 200, 201, 202, 203, 204, 205, 206, 207, 208, 209, 210, 211, 212, 213, 214, 215, 216] (by decide +kernel) _ (List.mem_map.mpr ⟨j, List.mem_range.mpr hj, rfl⟩)
theorem zFo_in : ∀ j : Nat, j < 100 → Cond.eq (.elem (.static "java/lang/Integer" "DigitOnes" "[B") (.int (Int32.ofNat j))) (.int (Int32.ofNat (48 + j % 10))) ∈ zFl := fun j hj =>
  zFp_in (l := (List.range 100).map (fun j => Cond.eq (.elem (.static "java/lang/Integer" "DigitOnes" "[B") (.int (Int32.ofNat j))) (.int (Int32.ofNat (48 + j % 10))))) [14, 15, 16, 17, 18, 19, 20, 21, 22, 23, 24, 25, 26, 27, 28, 29, 30, 31, 32, 33, 34, 35, 36, 37, 38, 39, 40, 41, 42, 43, 44, 45, 46, 47, 48, 49, 50, 51, 52, 53, 54, 55, 56, 57, 58, 59, 60, 61, 62, 63, 64, 65, 66, 67, 68, 69, 70, 71, 72, 73, 74, 75, 76, 77, 78, 79, 80, 81, 82, 83, 84, 85, 86, 87, 88, 89, 90, 91, 92, 93, 94, 95, 96, 97, 98, 99, 100, 101, 102, 103, 104, 105, 106, 107, 108, 109, 110, 111, 112, 113] (by decide +kernel) _ (List.mem_map.mpr ⟨j, List.mem_range.mpr hj, rfl⟩)

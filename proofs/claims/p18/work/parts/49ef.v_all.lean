/-! ===== values: all, 3 ===== -/
theorem vr_2_0 : zrx 2 0 = some (.aload_n 0, 0, 0) := by decide +kernel
theorem vr_2_1 : zrx 2 1 = some (.invokespecial 3, 0, 6) := by decide +kernel
theorem vr_2_4 : zrx 2 4 = some (.aload_n 0, 0, 0) := by decide +kernel
theorem vr_2_5 : zrx 2 5 = some (.iconst 0, 0, 0) := by decide +kernel
theorem vr_2_6 : zrx 2 6 = some (.putfield 9, 4, 4) := by decide +kernel
theorem vr_2_9 : zrx 2 9 = some (.aload_n 0, 0, 0) := by decide +kernel
theorem vr_2_10 : zrx 2 10 = some (.sipush 999, 0, 0) := by decide +kernel
theorem vr_2_13 : zrx 2 13 = some (.putfield 15, 4, 5) := by decide +kernel
theorem vr_2_16 : zrx 2 16 = some (.aload_n 0, 0, 0) := by decide +kernel
theorem vr_2_17 : zrx 2 17 = some (.iconst (-1), 0, 0) := by decide +kernel
theorem vr_2_18 : zrx 2 18 = some (.putfield 18, 4, 7) := by decide +kernel
theorem vr_2_21 : zrx 2 21 = some (.aload_n 0, 0, 0) := by decide +kernel
theorem vr_2_22 : zrx 2 22 = some (.iconst 2, 0, 0) := by decide +kernel
theorem vr_2_23 : zrx 2 23 = some (.newarray .int, 100, 0) := by decide +kernel
theorem vr_2_25 : zrx 2 25 = some (.putfield 21, 4, 9) := by decide +kernel
theorem vr_2_28 : zrx 2 28 = some (.aload_n 0, 0, 0) := by decide +kernel
theorem vr_2_29 : zrx 2 29 = some (.iconst 2, 0, 0) := by decide +kernel
theorem vr_2_30 : zrx 2 30 = some (.newarray .int, 100, 0) := by decide +kernel
theorem vr_2_32 : zrx 2 32 = some (.putfield 25, 4, 10) := by decide +kernel
theorem vr_2_35 : zrx 2 35 = some (.return_, 0, 0) := by decide +kernel
theorem vr_9_0 : zrx 9 0 = some (.iload_n 1, 0, 0) := by decide +kernel
theorem vr_9_1 : zrx 9 1 = some (.ifCond .lt 9, 0, 0) := by decide +kernel
theorem vr_9_4 : zrx 9 4 = some (.iload_n 1, 0, 0) := by decide +kernel
theorem vr_9_5 : zrx 9 5 = some (.bipush 24, 0, 0) := by decide +kernel
theorem vr_9_7 : zrx 9 7 = some (.if_icmp .lt 4, 0, 0) := by decide +kernel
theorem vr_9_10 : zrx 9 10 = some (.return_, 0, 0) := by decide +kernel
theorem vr_9_11 : zrx 9 11 = some (.aload_n 0, 0, 0) := by decide +kernel
theorem vr_9_12 : zrx 9 12 = some (.getfield 11, 5, 0) := by decide +kernel
theorem vr_9_15 : zrx 9 15 = some (.iload_n 1, 0, 0) := by decide +kernel
theorem vr_9_16 : zrx 9 16 = some (.aaload, 0, 0) := by decide +kernel
theorem vr_9_17 : zrx 9 17 = some (.aload_n 2, 0, 0) := by decide +kernel
theorem vr_9_18 : zrx 9 18 = some (.putfield 24, 3, 1) := by decide +kernel
theorem vr_9_21 : zrx 9 21 = some (.aload_n 0, 0, 0) := by decide +kernel
theorem vr_9_22 : zrx 9 22 = some (.aload_n 0, 0, 0) := by decide +kernel
theorem vr_9_23 : zrx 9 23 = some (.getfield 28, 5, 2) := by decide +kernel
theorem vr_9_26 : zrx 9 26 = some (.iload_n 1, 0, 0) := by decide +kernel
theorem vr_9_27 : zrx 9 27 = some (.iconst 1, 0, 0) := by decide +kernel
theorem vr_9_28 : zrx 9 28 = some (.iadd, 0, 0) := by decide +kernel
theorem vr_9_29 : zrx 9 29 = some (.invokestatic 32, 261, 0) := by decide +kernel
theorem vr_9_32 : zrx 9 32 = some (.putfield 28, 5, 2) := by decide +kernel
theorem vr_9_35 : zrx 9 35 = some (.aload_n 0, 0, 0) := by decide +kernel
theorem vr_9_36 : zrx 9 36 = some (.invokevirtual 38, 10, 60) := by decide +kernel
theorem vr_9_39 : zrx 9 39 = some (.return_, 0, 0) := by decide +kernel
theorem vr_10_0 : zrx 10 0 = some (.aload_n 0, 0, 0) := by decide +kernel
theorem vr_10_1 : zrx 10 1 = some (.iconst 0, 0, 0) := by decide +kernel
theorem vr_10_2 : zrx 10 2 = some (.putfield 41, 5, 3) := by decide +kernel
theorem vr_10_5 : zrx 10 5 = some (.aload_n 0, 0, 0) := by decide +kernel
theorem vr_10_6 : zrx 10 6 = some (.iconst 0, 0, 0) := by decide +kernel
theorem vr_10_7 : zrx 10 7 = some (.putfield 44, 5, 4) := by decide +kernel
theorem vr_10_10 : zrx 10 10 = some (.iconst 0, 0, 0) := by decide +kernel
theorem vr_10_11 : zrx 10 11 = some (.istore_n 1, 0, 0) := by decide +kernel
theorem vr_10_12 : zrx 10 12 = some (.iload_n 1, 0, 0) := by decide +kernel
theorem vr_10_13 : zrx 10 13 = some (.aload_n 0, 0, 0) := by decide +kernel
theorem vr_10_14 : zrx 10 14 = some (.getfield 28, 5, 2) := by decide +kernel
theorem vr_10_17 : zrx 10 17 = some (.if_icmp .ge 19, 0, 0) := by decide +kernel
theorem vr_10_20 : zrx 10 20 = some (.aload_n 0, 0, 0) := by decide +kernel
theorem vr_10_21 : zrx 10 21 = some (.getfield 11, 5, 0) := by decide +kernel
theorem vr_10_24 : zrx 10 24 = some (.iload_n 1, 0, 0) := by decide +kernel
theorem vr_10_25 : zrx 10 25 = some (.aaload, 0, 0) := by decide +kernel
theorem vr_10_26 : zrx 10 26 = some (.iconst 0, 0, 0) := by decide +kernel
theorem vr_10_27 : zrx 10 27 = some (.putfield 47, 3, 5) := by decide +kernel
theorem vr_10_30 : zrx 10 30 = some (.iinc 1 1, 0, 0) := by decide +kernel
theorem vr_10_33 : zrx 10 33 = some (.goto (-21), 0, 0) := by decide +kernel
theorem vr_10_36 : zrx 10 36 = some (.iconst 0, 0, 0) := by decide +kernel
theorem vr_10_37 : zrx 10 37 = some (.istore_n 1, 0, 0) := by decide +kernel
theorem vr_10_38 : zrx 10 38 = some (.iload_n 1, 0, 0) := by decide +kernel
theorem vr_10_39 : zrx 10 39 = some (.aload_n 0, 0, 0) := by decide +kernel
theorem vr_10_40 : zrx 10 40 = some (.getfield 28, 5, 2) := by decide +kernel
theorem vr_10_43 : zrx 10 43 = some (.if_icmp .ge 88, 0, 0) := by decide +kernel
theorem vr_10_46 : zrx 10 46 = some (.aload_n 0, 0, 0) := by decide +kernel
theorem vr_10_47 : zrx 10 47 = some (.getfield 11, 5, 0) := by decide +kernel
theorem vr_10_50 : zrx 10 50 = some (.iload_n 1, 0, 0) := by decide +kernel
theorem vr_10_51 : zrx 10 51 = some (.aaload, 0, 0) := by decide +kernel
theorem vr_10_52 : zrx 10 52 = some (.getfield 24, 3, 1) := by decide +kernel
theorem vr_10_55 : zrx 10 55 = some (.astore_n 2, 0, 0) := by decide +kernel
theorem vr_10_56 : zrx 10 56 = some (.aload_n 2, 0, 0) := by decide +kernel
theorem vr_10_57 : zrx 10 57 = some (.getfield 50, 4, 7) := by decide +kernel
theorem vr_10_60 : zrx 10 60 = some (.istore_n 3, 0, 0) := by decide +kernel
theorem vr_10_61 : zrx 10 61 = some (.iload_n 3, 0, 0) := by decide +kernel
theorem vr_10_62 : zrx 10 62 = some (.ifCond .lt 11, 0, 0) := by decide +kernel
theorem vr_10_65 : zrx 10 65 = some (.iload_n 3, 0, 0) := by decide +kernel
theorem vr_10_66 : zrx 10 66 = some (.aload_n 0, 0, 0) := by decide +kernel
theorem vr_10_67 : zrx 10 67 = some (.getfield 28, 5, 2) := by decide +kernel
theorem vr_10_70 : zrx 10 70 = some (.if_icmp .lt 18, 0, 0) := by decide +kernel
theorem vr_10_73 : zrx 10 73 = some (.aload_n 0, 0, 0) := by decide +kernel
theorem vr_10_74 : zrx 10 74 = some (.dup, 0, 0) := by decide +kernel
theorem vr_10_75 : zrx 10 75 = some (.getfield 41, 5, 3) := by decide +kernel
theorem vr_10_78 : zrx 10 78 = some (.iconst 1, 0, 0) := by decide +kernel
theorem vr_10_79 : zrx 10 79 = some (.iload_n 1, 0, 0) := by decide +kernel
theorem vr_10_80 : zrx 10 80 = some (.ishl, 0, 0) := by decide +kernel
theorem vr_10_81 : zrx 10 81 = some (.ior, 0, 0) := by decide +kernel
theorem vr_10_82 : zrx 10 82 = some (.putfield 41, 5, 3) := by decide +kernel
theorem vr_10_85 : zrx 10 85 = some (.goto 20, 0, 0) := by decide +kernel
theorem vr_10_88 : zrx 10 88 = some (.aload_n 0, 0, 0) := by decide +kernel
theorem vr_10_89 : zrx 10 89 = some (.getfield 11, 5, 0) := by decide +kernel
theorem vr_10_92 : zrx 10 92 = some (.iload_n 3, 0, 0) := by decide +kernel
theorem vr_10_93 : zrx 10 93 = some (.aaload, 0, 0) := by decide +kernel
theorem vr_10_94 : zrx 10 94 = some (.dup, 0, 0) := by decide +kernel
theorem vr_10_95 : zrx 10 95 = some (.getfield 47, 3, 5) := by decide +kernel
theorem vr_10_98 : zrx 10 98 = some (.iconst 1, 0, 0) := by decide +kernel
theorem vr_10_99 : zrx 10 99 = some (.iload_n 1, 0, 0) := by decide +kernel
theorem vr_10_100 : zrx 10 100 = some (.ishl, 0, 0) := by decide +kernel
theorem vr_10_101 : zrx 10 101 = some (.ior, 0, 0) := by decide +kernel
theorem vr_10_102 : zrx 10 102 = some (.putfield 47, 3, 5) := by decide +kernel
theorem vr_10_105 : zrx 10 105 = some (.aload_n 2, 0, 0) := by decide +kernel
theorem vr_10_106 : zrx 10 106 = some (.getfield 55, 4, 6) := by decide +kernel
theorem vr_10_109 : zrx 10 109 = some (.iconst (-1), 0, 0) := by decide +kernel
theorem vr_10_110 : zrx 10 110 = some (.if_icmp .ne 15, 0, 0) := by decide +kernel
theorem vr_10_113 : zrx 10 113 = some (.aload_n 0, 0, 0) := by decide +kernel
theorem vr_10_114 : zrx 10 114 = some (.dup, 0, 0) := by decide +kernel
theorem vr_10_115 : zrx 10 115 = some (.getfield 44, 5, 4) := by decide +kernel
theorem vr_10_118 : zrx 10 118 = some (.iconst 1, 0, 0) := by decide +kernel
theorem vr_10_119 : zrx 10 119 = some (.iload_n 1, 0, 0) := by decide +kernel
theorem vr_10_120 : zrx 10 120 = some (.ishl, 0, 0) := by decide +kernel
theorem vr_10_121 : zrx 10 121 = some (.ior, 0, 0) := by decide +kernel
theorem vr_10_122 : zrx 10 122 = some (.putfield 44, 5, 4) := by decide +kernel
theorem vr_10_125 : zrx 10 125 = some (.iinc 1 1, 0, 0) := by decide +kernel
theorem vr_10_128 : zrx 10 128 = some (.goto (-90), 0, 0) := by decide +kernel
theorem vr_10_131 : zrx 10 131 = some (.return_, 0, 0) := by decide +kernel
theorem vr_100_0 : zrx 100 0 = some (.new 260, 4, 0) := by decide +kernel
theorem vr_100_3 : zrx 100 3 = some (.dup, 0, 0) := by decide +kernel
theorem vr_100_4 : zrx 100 4 = some (.invokespecial 423, 2, 51) := by decide +kernel
theorem vr_100_7 : zrx 100 7 = some (.astore_n 2, 0, 0) := by decide +kernel
theorem vr_100_8 : zrx 100 8 = some (.aload_n 0, 0, 0) := by decide +kernel
theorem vr_100_9 : zrx 100 9 = some (.getfield 56, 13, 12) := by decide +kernel
theorem vr_100_12 : zrx 100 12 = some (.aload_n 2, 0, 0) := by decide +kernel
theorem vr_100_13 : zrx 100 13 = some (.iload_n 1, 0, 0) := by decide +kernel
theorem vr_100_14 : zrx 100 14 = some (.invokevirtual 424, 26, 90) := by decide +kernel
theorem vr_100_17 : zrx 100 17 = some (.istore_n 3, 0, 0) := by decide +kernel
theorem vr_100_18 : zrx 100 18 = some (.aload_n 0, 0, 0) := by decide +kernel
theorem vr_100_19 : zrx 100 19 = some (.getfield 56, 13, 12) := by decide +kernel
theorem vr_100_22 : zrx 100 22 = some (.iconst 0, 0, 0) := by decide +kernel
theorem vr_100_23 : zrx 100 23 = some (.putfield 159, 8, 1) := by decide +kernel
theorem vr_100_26 : zrx 100 26 = some (.iload_n 3, 0, 0) := by decide +kernel
theorem vr_100_27 : zrx 100 27 = some (.ifCond .eq 12, 0, 0) := by decide +kernel
theorem vr_100_30 : zrx 100 30 = some (.aload_n 0, 0, 0) := by decide +kernel
theorem vr_100_31 : zrx 100 31 = some (.getfield 42, 13, 10) := by decide +kernel
theorem vr_100_34 : zrx 100 34 = some (.iload_n 1, 0, 0) := by decide +kernel
theorem vr_100_35 : zrx 100 35 = some (.aload_n 2, 0, 0) := by decide +kernel
theorem vr_100_36 : zrx 100 36 = some (.invokevirtual 428, 9, 60) := by decide +kernel
theorem vr_100_39 : zrx 100 39 = some (.iload_n 3, 0, 0) := by decide +kernel
theorem vr_100_40 : zrx 100 40 = some (.ireturn, 0, 0) := by decide +kernel
theorem vr_119_0 : zrx 119 0 = some (.aload_n 0, 0, 0) := by decide +kernel
theorem vr_119_1 : zrx 119 1 = some (.invokespecial 3, 0, 6) := by decide +kernel
theorem vr_119_4 : zrx 119 4 = some (.aload_n 0, 0, 0) := by decide +kernel
theorem vr_119_5 : zrx 119 5 = some (.iconst 2, 0, 0) := by decide +kernel
theorem vr_119_6 : zrx 119 6 = some (.newarray .int, 100, 0) := by decide +kernel
theorem vr_119_8 : zrx 119 8 = some (.putfield 9, 15, 4) := by decide +kernel
theorem vr_119_11 : zrx 119 11 = some (.aload_n 0, 0, 0) := by decide +kernel
theorem vr_119_12 : zrx 119 12 = some (.iconst 2, 0, 0) := by decide +kernel
theorem vr_119_13 : zrx 119 13 = some (.newarray .int, 100, 0) := by decide +kernel
theorem vr_119_15 : zrx 119 15 = some (.putfield 15, 15, 5) := by decide +kernel
theorem vr_119_18 : zrx 119 18 = some (.aload_n 0, 0, 0) := by decide +kernel
theorem vr_119_19 : zrx 119 19 = some (.iconst (-1), 0, 0) := by decide +kernel
theorem vr_119_20 : zrx 119 20 = some (.putfield 18, 15, 8) := by decide +kernel
theorem vr_119_23 : zrx 119 23 = some (.aload_n 0, 0, 0) := by decide +kernel
theorem vr_119_24 : zrx 119 24 = some (.iconst (-1), 0, 0) := by decide +kernel
theorem vr_119_25 : zrx 119 25 = some (.putfield 22, 15, 10) := by decide +kernel
theorem vr_119_28 : zrx 119 28 = some (.aload_n 0, 0, 0) := by decide +kernel
theorem vr_119_29 : zrx 119 29 = some (.iconst (-1), 0, 0) := by decide +kernel
theorem vr_119_30 : zrx 119 30 = some (.putfield 25, 15, 11) := by decide +kernel
theorem vr_119_33 : zrx 119 33 = some (.return_, 0, 0) := by decide +kernel
theorem vr_148_0 : zrx 148 0 = some (.new 108, 15, 0) := by decide +kernel
theorem vr_148_3 : zrx 148 3 = some (.dup, 0, 0) := by decide +kernel
theorem vr_148_4 : zrx 148 4 = some (.invokespecial 175, 119, 161) := by decide +kernel
theorem vr_148_7 : zrx 148 7 = some (.astore_n 2, 0, 0) := by decide +kernel
theorem vr_148_8 : zrx 148 8 = some (.aload_n 0, 0, 0) := by decide +kernel
theorem vr_148_9 : zrx 148 9 = some (.iconst 0, 0, 0) := by decide +kernel
theorem vr_148_10 : zrx 148 10 = some (.putfield 148, 18, 16) := by decide +kernel
theorem C_ainit (n : Nat) (q : Nat) (h : List zC) (u : Nat) (hq : q < h.length) : zL zrx zi n 119 0 [(0, .ref q)] [] h u (fun o h2 _ => o = .inl none ∧ h2.length = h.length + 2 ∧ (∀ x k, x < h.length → ¬ (x = q ∧ (k = 4 ∨ k = 5 ∨ k = 8 ∨ k = 10 ∨ k = 11)) → gF h2 x k = gF h x k) ∧ (gF h2 q 4 = some (.ref h.length) ∧ gF h2 q 5 = some (.ref (h.length + 1)) ∧ gF h2 q 8 = some (.int (-1)) ∧ gF h2 q 10 = some (.int (-1)) ∧ gF h2 q 11 = some (.int (-1))) ∧ (∀ k, k < 2 → gF h2 h.length k = some (.int 0) ∧ gF h2 (h.length + 1) k = some (.int 0)) ∧ ∀ x, x < h.length → gT h2 x = gT h x ∧ gN h2 x = gN h x) := by
  refine zSaload (m := 1) (k := 0) vr_119_0 rfl rfl rfl ?_
  refine zSobj vr_119_1 rfl ?_
  refine zSaload (m := 1) (k := 0) vr_119_4 rfl rfl rfl ?_
  refine zSp0 (pc' := 6) (st' := .int (2) :: _) vr_119_5 rfl rfl ?_
  refine zLnarr vr_119_6 rfl (fun m1553 k1553 u1553 e1553 n1553 g1553 => ?_)
  cases e1553
  refine zLput vr_119_8 rfl (fun p1554 k1554 e1554 t1554 g1554 => ?_)
  cases e1554
  refine zSaload (m := 1) (k := 0) vr_119_11 rfl rfl rfl ?_
  refine zSp0 (pc' := 13) (st' := .int (2) :: _) vr_119_12 rfl rfl ?_
  refine zLnarr vr_119_13 rfl (fun m1557 k1557 u1557 e1557 n1557 g1557 => ?_)
  cases e1557
  refine zLput vr_119_15 rfl (fun p1558 k1558 e1558 t1558 g1558 => ?_)
  cases e1558
  refine zSaload (m := 1) (k := 0) vr_119_18 rfl rfl rfl ?_
  refine zSp0 (pc' := 20) (st' := .int (-1) :: _) vr_119_19 rfl rfl ?_
  refine zLput vr_119_20 rfl (fun p1561 k1561 e1561 t1561 g1561 => ?_)
  cases e1561
  refine zSaload (m := 1) (k := 0) vr_119_23 rfl rfl rfl ?_
  refine zSp0 (pc' := 25) (st' := .int (-1) :: _) vr_119_24 rfl rfl ?_
  refine zLput vr_119_25 rfl (fun p1564 k1564 e1564 t1564 g1564 => ?_)
  cases e1564
  refine zSaload (m := 1) (k := 0) vr_119_28 rfl rfl rfl ?_
  refine zSp0 (pc' := 30) (st' := .int (-1) :: _) vr_119_29 rfl rfl ?_
  refine zLput vr_119_30 rfl (fun p1567 k1567 e1567 t1567 g1567 => ?_)
  cases e1567
  refine zSvoid vr_119_33 rfl ?_
  have l1553 := g1553.len
  have l1554 := g1554.1
  have l1557 := g1557.len
  have l1558 := g1558.1
  have l1561 := g1561.1
  have l1564 := g1564.1
  have l1567 := g1567.1
  have e0 : h.length = h.length := by omega
  have e1 : h.length + 1 = k1554.length := by omega
  refine ⟨rfl, by omega, fun x k hx n => ?_, ⟨?_, ?_, ?_, ?_, ?_⟩, fun k hk => ?_, fun x hx => ⟨?_, ?_⟩⟩
  · rw [g1567.2.1, if_neg (by omega)]
    rw [g1564.2.1, if_neg (by omega)]
    rw [g1561.2.1, if_neg (by omega)]
    rw [g1558.2.1, if_neg (by omega)]
    rw [g1557.ext.fld (by omega)]
    rw [g1554.2.1, if_neg (by omega)]
    rw [g1553.ext.fld (by omega)]
  · first
      | exact (g1567.2.1 _ _).trans (if_pos ⟨rfl, rfl⟩)
      | (rw [g1567.2.1, if_neg (by omega)]
         first
           | exact (g1564.2.1 _ _).trans (if_pos ⟨rfl, rfl⟩)
           | (rw [g1564.2.1, if_neg (by omega)]
              first
                | exact (g1561.2.1 _ _).trans (if_pos ⟨rfl, rfl⟩)
                | (rw [g1561.2.1, if_neg (by omega)]
                   first
                     | exact (g1558.2.1 _ _).trans (if_pos ⟨rfl, rfl⟩)
                     | (rw [g1558.2.1, if_neg (by omega)]
                        first
                          | (rw [g1557.fld]
                             rfl)
                          | (rw [g1557.ext.fld (by omega)]
                             first
                               | exact (g1554.2.1 _ _).trans (if_pos ⟨rfl, rfl⟩)
                               | (rw [g1554.2.1, if_neg (by omega)]
                                  first
                                    | (rw [g1553.fld]
                                       rfl)
                                    | (rw [g1553.ext.fld (by omega)]
                                       assumption)))))))
  · rw [e1]
    first
      | exact (g1567.2.1 _ _).trans (if_pos ⟨rfl, rfl⟩)
      | (rw [g1567.2.1, if_neg (by omega)]
         first
           | exact (g1564.2.1 _ _).trans (if_pos ⟨rfl, rfl⟩)
           | (rw [g1564.2.1, if_neg (by omega)]
              first
                | exact (g1561.2.1 _ _).trans (if_pos ⟨rfl, rfl⟩)
                | (rw [g1561.2.1, if_neg (by omega)]
                   first
                     | exact (g1558.2.1 _ _).trans (if_pos ⟨rfl, rfl⟩)
                     | (rw [g1558.2.1, if_neg (by omega)]
                        first
                          | (rw [g1557.fld]
                             rfl)
                          | (rw [g1557.ext.fld (by omega)]
                             first
                               | exact (g1554.2.1 _ _).trans (if_pos ⟨rfl, rfl⟩)
                               | (rw [g1554.2.1, if_neg (by omega)]
                                  first
                                    | (rw [g1553.fld]
                                       rfl)
                                    | (rw [g1553.ext.fld (by omega)]
                                       assumption)))))))
  · first
      | exact (g1567.2.1 _ _).trans (if_pos ⟨rfl, rfl⟩)
      | (rw [g1567.2.1, if_neg (by omega)]
         first
           | exact (g1564.2.1 _ _).trans (if_pos ⟨rfl, rfl⟩)
           | (rw [g1564.2.1, if_neg (by omega)]
              first
                | exact (g1561.2.1 _ _).trans (if_pos ⟨rfl, rfl⟩)
                | (rw [g1561.2.1, if_neg (by omega)]
                   first
                     | exact (g1558.2.1 _ _).trans (if_pos ⟨rfl, rfl⟩)
                     | (rw [g1558.2.1, if_neg (by omega)]
                        first
                          | (rw [g1557.fld]
                             rfl)
                          | (rw [g1557.ext.fld (by omega)]
                             first
                               | exact (g1554.2.1 _ _).trans (if_pos ⟨rfl, rfl⟩)
                               | (rw [g1554.2.1, if_neg (by omega)]
                                  first
                                    | (rw [g1553.fld]
                                       rfl)
                                    | (rw [g1553.ext.fld (by omega)]
                                       assumption)))))))
  · first
      | exact (g1567.2.1 _ _).trans (if_pos ⟨rfl, rfl⟩)
      | (rw [g1567.2.1, if_neg (by omega)]
         first
           | exact (g1564.2.1 _ _).trans (if_pos ⟨rfl, rfl⟩)
           | (rw [g1564.2.1, if_neg (by omega)]
              first
                | exact (g1561.2.1 _ _).trans (if_pos ⟨rfl, rfl⟩)
                | (rw [g1561.2.1, if_neg (by omega)]
                   first
                     | exact (g1558.2.1 _ _).trans (if_pos ⟨rfl, rfl⟩)
                     | (rw [g1558.2.1, if_neg (by omega)]
                        first
                          | (rw [g1557.fld]
                             rfl)
                          | (rw [g1557.ext.fld (by omega)]
                             first
                               | exact (g1554.2.1 _ _).trans (if_pos ⟨rfl, rfl⟩)
                               | (rw [g1554.2.1, if_neg (by omega)]
                                  first
                                    | (rw [g1553.fld]
                                       rfl)
                                    | (rw [g1553.ext.fld (by omega)]
                                       assumption)))))))
  · first
      | exact (g1567.2.1 _ _).trans (if_pos ⟨rfl, rfl⟩)
      | (rw [g1567.2.1, if_neg (by omega)]
         first
           | exact (g1564.2.1 _ _).trans (if_pos ⟨rfl, rfl⟩)
           | (rw [g1564.2.1, if_neg (by omega)]
              first
                | exact (g1561.2.1 _ _).trans (if_pos ⟨rfl, rfl⟩)
                | (rw [g1561.2.1, if_neg (by omega)]
                   first
                     | exact (g1558.2.1 _ _).trans (if_pos ⟨rfl, rfl⟩)
                     | (rw [g1558.2.1, if_neg (by omega)]
                        first
                          | (rw [g1557.fld]
                             rfl)
                          | (rw [g1557.ext.fld (by omega)]
                             first
                               | exact (g1554.2.1 _ _).trans (if_pos ⟨rfl, rfl⟩)
                               | (rw [g1554.2.1, if_neg (by omega)]
                                  first
                                    | (rw [g1553.fld]
                                       rfl)
                                    | (rw [g1553.ext.fld (by omega)]
                                       assumption)))))))
  · refine ⟨?_, ?_⟩
    · rcases two_k hk with z | z <;> subst z
      · first
          | exact (g1567.2.1 _ _).trans (if_pos ⟨rfl, rfl⟩)
          | (rw [g1567.2.1, if_neg (by omega)]
             first
               | exact (g1564.2.1 _ _).trans (if_pos ⟨rfl, rfl⟩)
               | (rw [g1564.2.1, if_neg (by omega)]
                  first
                    | exact (g1561.2.1 _ _).trans (if_pos ⟨rfl, rfl⟩)
                    | (rw [g1561.2.1, if_neg (by omega)]
                       first
                         | exact (g1558.2.1 _ _).trans (if_pos ⟨rfl, rfl⟩)
                         | (rw [g1558.2.1, if_neg (by omega)]
                            first
                              | (rw [g1557.fld]
                                 rfl)
                              | (rw [g1557.ext.fld (by omega)]
                                 first
                                   | exact (g1554.2.1 _ _).trans (if_pos ⟨rfl, rfl⟩)
                                   | (rw [g1554.2.1, if_neg (by omega)]
                                      first
                                        | (rw [g1553.fld]
                                           rfl)
                                        | (rw [g1553.ext.fld (by omega)]
                                           assumption)))))))
      · first
          | exact (g1567.2.1 _ _).trans (if_pos ⟨rfl, rfl⟩)
          | (rw [g1567.2.1, if_neg (by omega)]
             first
               | exact (g1564.2.1 _ _).trans (if_pos ⟨rfl, rfl⟩)
               | (rw [g1564.2.1, if_neg (by omega)]
                  first
                    | exact (g1561.2.1 _ _).trans (if_pos ⟨rfl, rfl⟩)
                    | (rw [g1561.2.1, if_neg (by omega)]
                       first
                         | exact (g1558.2.1 _ _).trans (if_pos ⟨rfl, rfl⟩)
                         | (rw [g1558.2.1, if_neg (by omega)]
                            first
                              | (rw [g1557.fld]
                                 rfl)
                              | (rw [g1557.ext.fld (by omega)]
                                 first
                                   | exact (g1554.2.1 _ _).trans (if_pos ⟨rfl, rfl⟩)
                                   | (rw [g1554.2.1, if_neg (by omega)]
                                      first
                                        | (rw [g1553.fld]
                                           rfl)
                                        | (rw [g1553.ext.fld (by omega)]
                                           assumption)))))))
    · rw [e1]
      rcases two_k hk with z | z <;> subst z
      · first
          | exact (g1567.2.1 _ _).trans (if_pos ⟨rfl, rfl⟩)
          | (rw [g1567.2.1, if_neg (by omega)]
             first
               | exact (g1564.2.1 _ _).trans (if_pos ⟨rfl, rfl⟩)
               | (rw [g1564.2.1, if_neg (by omega)]
                  first
                    | exact (g1561.2.1 _ _).trans (if_pos ⟨rfl, rfl⟩)
                    | (rw [g1561.2.1, if_neg (by omega)]
                       first
                         | exact (g1558.2.1 _ _).trans (if_pos ⟨rfl, rfl⟩)
                         | (rw [g1558.2.1, if_neg (by omega)]
                            first
                              | (rw [g1557.fld]
                                 rfl)
                              | (rw [g1557.ext.fld (by omega)]
                                 first
                                   | exact (g1554.2.1 _ _).trans (if_pos ⟨rfl, rfl⟩)
                                   | (rw [g1554.2.1, if_neg (by omega)]
                                      first
                                        | (rw [g1553.fld]
                                           rfl)
                                        | (rw [g1553.ext.fld (by omega)]
                                           assumption)))))))
      · first
          | exact (g1567.2.1 _ _).trans (if_pos ⟨rfl, rfl⟩)
          | (rw [g1567.2.1, if_neg (by omega)]
             first
               | exact (g1564.2.1 _ _).trans (if_pos ⟨rfl, rfl⟩)
               | (rw [g1564.2.1, if_neg (by omega)]
                  first
                    | exact (g1561.2.1 _ _).trans (if_pos ⟨rfl, rfl⟩)
                    | (rw [g1561.2.1, if_neg (by omega)]
                       first
                         | exact (g1558.2.1 _ _).trans (if_pos ⟨rfl, rfl⟩)
                         | (rw [g1558.2.1, if_neg (by omega)]
                            first
                              | (rw [g1557.fld]
                                 rfl)
                              | (rw [g1557.ext.fld (by omega)]
                                 first
                                   | exact (g1554.2.1 _ _).trans (if_pos ⟨rfl, rfl⟩)
                                   | (rw [g1554.2.1, if_neg (by omega)]
                                      first
                                        | (rw [g1553.fld]
                                           rfl)
                                        | (rw [g1553.ext.fld (by omega)]
                                           assumption)))))))
  · rw [g1567.2.2.1]
    rw [g1564.2.2.1]
    rw [g1561.2.2.1]
    rw [g1558.2.2.1]
    rw [(g1557.ext.T (by omega)).1]
    rw [g1554.2.2.1]
    rw [(g1553.ext.T (by omega)).1]
  · rw [g1567.2.2.2]
    rw [g1564.2.2.2]
    rw [g1561.2.2.2]
    rw [g1558.2.2.2]
    rw [(g1557.ext.T (by omega)).2]
    rw [g1554.2.2.2]
    rw [(g1553.ext.T (by omega)).2]
theorem C_cinit (n : Nat) (q : Nat) (h : List zC) (u : Nat) (hq : q < h.length) : zL zrx zi n 2 0 [(0, .ref q)] [] h u (fun o h2 _ => o = .inl none ∧ h2.length = h.length + 2 ∧ (∀ x k, x < h.length → ¬ (x = q ∧ (k = 9 ∨ k = 10 ∨ k = 4 ∨ k = 5 ∨ k = 7)) → gF h2 x k = gF h x k) ∧ (gF h2 q 9 = some (.ref h.length) ∧ gF h2 q 10 = some (.ref (h.length + 1)) ∧ gF h2 q 4 = some (.int (0)) ∧ gF h2 q 5 = some (.int (999)) ∧ gF h2 q 7 = some (.int (-1))) ∧ (∀ k, k < 2 → gF h2 h.length k = some (.int 0) ∧ gF h2 (h.length + 1) k = some (.int 0)) ∧ ∀ x, x < h.length → gT h2 x = gT h x ∧ gN h2 x = gN h x) := by
  refine zSaload (m := 1) (k := 0) vr_2_0 rfl rfl rfl ?_
  refine zSobj vr_2_1 rfl ?_
  refine zSaload (m := 1) (k := 0) vr_2_4 rfl rfl rfl ?_
  refine zSp0 (pc' := 6) (st' := .int (0) :: _) vr_2_5 rfl rfl ?_
  refine zLput vr_2_6 rfl (fun p1573 k1573 e1573 t1573 g1573 => ?_)
  cases e1573
  refine zSaload (m := 1) (k := 0) vr_2_9 rfl rfl rfl ?_
  refine zSp0 (pc' := 13) (st' := .int (999) :: _) vr_2_10 rfl rfl ?_
  refine zLput vr_2_13 rfl (fun p1576 k1576 e1576 t1576 g1576 => ?_)
  cases e1576
  refine zSaload (m := 1) (k := 0) vr_2_16 rfl rfl rfl ?_
  refine zSp0 (pc' := 18) (st' := .int (-1) :: _) vr_2_17 rfl rfl ?_
  refine zLput vr_2_18 rfl (fun p1579 k1579 e1579 t1579 g1579 => ?_)
  cases e1579
  refine zSaload (m := 1) (k := 0) vr_2_21 rfl rfl rfl ?_
  refine zSp0 (pc' := 23) (st' := .int (2) :: _) vr_2_22 rfl rfl ?_
  refine zLnarr vr_2_23 rfl (fun m1582 k1582 u1582 e1582 n1582 g1582 => ?_)
  cases e1582
  refine zLput vr_2_25 rfl (fun p1583 k1583 e1583 t1583 g1583 => ?_)
  cases e1583
  refine zSaload (m := 1) (k := 0) vr_2_28 rfl rfl rfl ?_
  refine zSp0 (pc' := 30) (st' := .int (2) :: _) vr_2_29 rfl rfl ?_
  refine zLnarr vr_2_30 rfl (fun m1586 k1586 u1586 e1586 n1586 g1586 => ?_)
  cases e1586
  refine zLput vr_2_32 rfl (fun p1587 k1587 e1587 t1587 g1587 => ?_)
  cases e1587
  refine zSvoid vr_2_35 rfl ?_
  have l1573 := g1573.1
  have l1576 := g1576.1
  have l1579 := g1579.1
  have l1582 := g1582.len
  have l1583 := g1583.1
  have l1586 := g1586.len
  have l1587 := g1587.1
  have e0 : h.length = k1579.length := by omega
  have e1 : h.length + 1 = k1583.length := by omega
  refine ⟨rfl, by omega, fun x k hx n => ?_, ⟨?_, ?_, ?_, ?_, ?_⟩, fun k hk => ?_, fun x hx => ⟨?_, ?_⟩⟩
  · rw [g1587.2.1, if_neg (by omega)]
    rw [g1586.ext.fld (by omega)]
    rw [g1583.2.1, if_neg (by omega)]
    rw [g1582.ext.fld (by omega)]
    rw [g1579.2.1, if_neg (by omega)]
    rw [g1576.2.1, if_neg (by omega)]
    rw [g1573.2.1, if_neg (by omega)]
  · rw [e0]
    first
      | exact (g1587.2.1 _ _).trans (if_pos ⟨rfl, rfl⟩)
      | (rw [g1587.2.1, if_neg (by omega)]
         first
           | (rw [g1586.fld]
              rfl)
           | (rw [g1586.ext.fld (by omega)]
              first
                | exact (g1583.2.1 _ _).trans (if_pos ⟨rfl, rfl⟩)
                | (rw [g1583.2.1, if_neg (by omega)]
                   first
                     | (rw [g1582.fld]
                        rfl)
                     | (rw [g1582.ext.fld (by omega)]
                        first
                          | exact (g1579.2.1 _ _).trans (if_pos ⟨rfl, rfl⟩)
                          | (rw [g1579.2.1, if_neg (by omega)]
                             first
                               | exact (g1576.2.1 _ _).trans (if_pos ⟨rfl, rfl⟩)
                               | (rw [g1576.2.1, if_neg (by omega)]
                                  first
                                    | exact (g1573.2.1 _ _).trans (if_pos ⟨rfl, rfl⟩)
                                    | (rw [g1573.2.1, if_neg (by omega)]
                                       assumption)))))))
  · rw [e1]
    first
      | exact (g1587.2.1 _ _).trans (if_pos ⟨rfl, rfl⟩)
      | (rw [g1587.2.1, if_neg (by omega)]
         first
           | (rw [g1586.fld]
              rfl)
           | (rw [g1586.ext.fld (by omega)]
              first
                | exact (g1583.2.1 _ _).trans (if_pos ⟨rfl, rfl⟩)
                | (rw [g1583.2.1, if_neg (by omega)]
                   first
                     | (rw [g1582.fld]
                        rfl)
                     | (rw [g1582.ext.fld (by omega)]
                        first
                          | exact (g1579.2.1 _ _).trans (if_pos ⟨rfl, rfl⟩)
                          | (rw [g1579.2.1, if_neg (by omega)]
                             first
                               | exact (g1576.2.1 _ _).trans (if_pos ⟨rfl, rfl⟩)
                               | (rw [g1576.2.1, if_neg (by omega)]
                                  first
                                    | exact (g1573.2.1 _ _).trans (if_pos ⟨rfl, rfl⟩)
                                    | (rw [g1573.2.1, if_neg (by omega)]
                                       assumption)))))))
  · first
      | exact (g1587.2.1 _ _).trans (if_pos ⟨rfl, rfl⟩)
      | (rw [g1587.2.1, if_neg (by omega)]
         first
           | (rw [g1586.fld]
              rfl)
           | (rw [g1586.ext.fld (by omega)]
              first
                | exact (g1583.2.1 _ _).trans (if_pos ⟨rfl, rfl⟩)
                | (rw [g1583.2.1, if_neg (by omega)]
                   first
                     | (rw [g1582.fld]
                        rfl)
                     | (rw [g1582.ext.fld (by omega)]
                        first
                          | exact (g1579.2.1 _ _).trans (if_pos ⟨rfl, rfl⟩)
                          | (rw [g1579.2.1, if_neg (by omega)]
                             first
                               | exact (g1576.2.1 _ _).trans (if_pos ⟨rfl, rfl⟩)
                               | (rw [g1576.2.1, if_neg (by omega)]
                                  first
                                    | exact (g1573.2.1 _ _).trans (if_pos ⟨rfl, rfl⟩)
                                    | (rw [g1573.2.1, if_neg (by omega)]
                                       assumption)))))))
  · first
      | exact (g1587.2.1 _ _).trans (if_pos ⟨rfl, rfl⟩)
      | (rw [g1587.2.1, if_neg (by omega)]
         first
           | (rw [g1586.fld]
              rfl)
           | (rw [g1586.ext.fld (by omega)]
              first
                | exact (g1583.2.1 _ _).trans (if_pos ⟨rfl, rfl⟩)
                | (rw [g1583.2.1, if_neg (by omega)]
                   first
                     | (rw [g1582.fld]
                        rfl)
                     | (rw [g1582.ext.fld (by omega)]
                        first
                          | exact (g1579.2.1 _ _).trans (if_pos ⟨rfl, rfl⟩)
                          | (rw [g1579.2.1, if_neg (by omega)]
                             first
                               | exact (g1576.2.1 _ _).trans (if_pos ⟨rfl, rfl⟩)
                               | (rw [g1576.2.1, if_neg (by omega)]
                                  first
                                    | exact (g1573.2.1 _ _).trans (if_pos ⟨rfl, rfl⟩)
                                    | (rw [g1573.2.1, if_neg (by omega)]
                                       assumption)))))))
  · first
      | exact (g1587.2.1 _ _).trans (if_pos ⟨rfl, rfl⟩)
      | (rw [g1587.2.1, if_neg (by omega)]
         first
           | (rw [g1586.fld]
              rfl)
           | (rw [g1586.ext.fld (by omega)]
              first
                | exact (g1583.2.1 _ _).trans (if_pos ⟨rfl, rfl⟩)
                | (rw [g1583.2.1, if_neg (by omega)]
                   first
                     | (rw [g1582.fld]
                        rfl)
                     | (rw [g1582.ext.fld (by omega)]
                        first
                          | exact (g1579.2.1 _ _).trans (if_pos ⟨rfl, rfl⟩)
                          | (rw [g1579.2.1, if_neg (by omega)]
                             first
                               | exact (g1576.2.1 _ _).trans (if_pos ⟨rfl, rfl⟩)
                               | (rw [g1576.2.1, if_neg (by omega)]
                                  first
                                    | exact (g1573.2.1 _ _).trans (if_pos ⟨rfl, rfl⟩)
                                    | (rw [g1573.2.1, if_neg (by omega)]
                                       assumption)))))))
  · refine ⟨?_, ?_⟩
    · rw [e0]
      rcases two_k hk with z | z <;> subst z
      · first
          | exact (g1587.2.1 _ _).trans (if_pos ⟨rfl, rfl⟩)
          | (rw [g1587.2.1, if_neg (by omega)]
             first
               | (rw [g1586.fld]
                  rfl)
               | (rw [g1586.ext.fld (by omega)]
                  first
                    | exact (g1583.2.1 _ _).trans (if_pos ⟨rfl, rfl⟩)
                    | (rw [g1583.2.1, if_neg (by omega)]
                       first
                         | (rw [g1582.fld]
                            rfl)
                         | (rw [g1582.ext.fld (by omega)]
                            first
                              | exact (g1579.2.1 _ _).trans (if_pos ⟨rfl, rfl⟩)
                              | (rw [g1579.2.1, if_neg (by omega)]
                                 first
                                   | exact (g1576.2.1 _ _).trans (if_pos ⟨rfl, rfl⟩)
                                   | (rw [g1576.2.1, if_neg (by omega)]
                                      first
                                        | exact (g1573.2.1 _ _).trans (if_pos ⟨rfl, rfl⟩)
                                        | (rw [g1573.2.1, if_neg (by omega)]
                                           assumption)))))))
      · first
          | exact (g1587.2.1 _ _).trans (if_pos ⟨rfl, rfl⟩)
          | (rw [g1587.2.1, if_neg (by omega)]
             first
               | (rw [g1586.fld]
                  rfl)
               | (rw [g1586.ext.fld (by omega)]
                  first
                    | exact (g1583.2.1 _ _).trans (if_pos ⟨rfl, rfl⟩)
                    | (rw [g1583.2.1, if_neg (by omega)]
                       first
                         | (rw [g1582.fld]
                            rfl)
                         | (rw [g1582.ext.fld (by omega)]
                            first
                              | exact (g1579.2.1 _ _).trans (if_pos ⟨rfl, rfl⟩)
                              | (rw [g1579.2.1, if_neg (by omega)]
                                 first
                                   | exact (g1576.2.1 _ _).trans (if_pos ⟨rfl, rfl⟩)
                                   | (rw [g1576.2.1, if_neg (by omega)]
                                      first
                                        | exact (g1573.2.1 _ _).trans (if_pos ⟨rfl, rfl⟩)
                                        | (rw [g1573.2.1, if_neg (by omega)]
                                           assumption)))))))
    · rw [e1]
      rcases two_k hk with z | z <;> subst z
      · first
          | exact (g1587.2.1 _ _).trans (if_pos ⟨rfl, rfl⟩)
          | (rw [g1587.2.1, if_neg (by omega)]
             first
               | (rw [g1586.fld]
                  rfl)
               | (rw [g1586.ext.fld (by omega)]
                  first
                    | exact (g1583.2.1 _ _).trans (if_pos ⟨rfl, rfl⟩)
                    | (rw [g1583.2.1, if_neg (by omega)]
                       first
                         | (rw [g1582.fld]
                            rfl)
                         | (rw [g1582.ext.fld (by omega)]
                            first
                              | exact (g1579.2.1 _ _).trans (if_pos ⟨rfl, rfl⟩)
                              | (rw [g1579.2.1, if_neg (by omega)]
                                 first
                                   | exact (g1576.2.1 _ _).trans (if_pos ⟨rfl, rfl⟩)
                                   | (rw [g1576.2.1, if_neg (by omega)]
                                      first
                                        | exact (g1573.2.1 _ _).trans (if_pos ⟨rfl, rfl⟩)
                                        | (rw [g1573.2.1, if_neg (by omega)]
                                           assumption)))))))
      · first
          | exact (g1587.2.1 _ _).trans (if_pos ⟨rfl, rfl⟩)
          | (rw [g1587.2.1, if_neg (by omega)]
             first
               | (rw [g1586.fld]
                  rfl)
               | (rw [g1586.ext.fld (by omega)]
                  first
                    | exact (g1583.2.1 _ _).trans (if_pos ⟨rfl, rfl⟩)
                    | (rw [g1583.2.1, if_neg (by omega)]
                       first
                         | (rw [g1582.fld]
                            rfl)
                         | (rw [g1582.ext.fld (by omega)]
                            first
                              | exact (g1579.2.1 _ _).trans (if_pos ⟨rfl, rfl⟩)
                              | (rw [g1579.2.1, if_neg (by omega)]
                                 first
                                   | exact (g1576.2.1 _ _).trans (if_pos ⟨rfl, rfl⟩)
                                   | (rw [g1576.2.1, if_neg (by omega)]
                                      first
                                        | exact (g1573.2.1 _ _).trans (if_pos ⟨rfl, rfl⟩)
                                        | (rw [g1573.2.1, if_neg (by omega)]
                                           assumption)))))))
  · rw [g1587.2.2.1]
    rw [(g1586.ext.T (by omega)).1]
    rw [g1583.2.2.1]
    rw [(g1582.ext.T (by omega)).1]
    rw [g1579.2.2.1]
    rw [g1576.2.2.1]
    rw [g1573.2.2.1]
  · rw [g1587.2.2.2]
    rw [(g1586.ext.T (by omega)).2]
    rw [g1583.2.2.2]
    rw [(g1582.ext.T (by omega)).2]
    rw [g1579.2.2.2]
    rw [g1576.2.2.2]
    rw [g1573.2.2.2]
theorem C_mread (n : Nat) (nb : Int32) (h : List zC) (u : Nat) {T : Nat → Int32} {L s b : Nat} {bd : Int32} (hS : Stc h) (sb : SB T L s b h) (q1 : gF h 213 10 = some (.ref s)) (q2 : gF h 213 17 = some (.int bd)) (q3 : bd = 0 ∨ bd = 1) : zL zrx zi n 148 0 [(0, .ref 213), (1, .int nb)] [] h u (fun o h2 _ => o = .inl (some (.ref h.length)) ∧ QRd T L s b nb h h2) := by
  refine zLnew2 vr_148_0 rfl (fun k1589 u1589 g1589 => ?_)
  refine zSdup vr_148_3 rfl ?_
  have l00 : h.length < k1589.length := by
    rw [g1589.len]
    omega
  refine zScall vr_148_4 rfl rfl rfl (fun m1591 _ => C_ainit _ _ _ _ l00) (fun v1591 h1591 u1591 q1591 => ?_) (fun E1591 h1591 u1591 q1591 => ?_)
  · obtain ⟨z1591, i1, i2, i3, i4, i5⟩ := q1591
    cases z1591
    show zL zrx zi _ 148 7 [(0, _), (1, _)] [_] _ _ _
    refine zSastore (m := 1) (k := 2) vr_148_7 rfl rfl ?_
    show zL zrx zi _ 148 8 [(2, _), (0, _), (1, _)] [] _ _ _
    refine zSaload (m := 1) (k := 0) vr_148_8 rfl rfl rfl ?_
    refine zSp0 (pc' := 10) (st' := .int (0) :: _) vr_148_9 rfl rfl ?_
    refine zLput vr_148_10 rfl (fun p1595 k1595 e1595 t1595 g1595 => ?_)
    cases e1595
    have h0 := hS.1
    have l0 := g1589.len
    have old : ∀ x k, x < h.length → gF h1591 x k = gF h x k := fun x k hx => by
      rw [i2 x k (by omega) (by omega), g1589.ext.fld hx]
    have oldT : ∀ x, x < h.length → gT h1591 x = gT h x ∧ gN h1591 x = gN h x := fun x hx => by
      rw [(i5 x (by omega)).1, (i5 x (by omega)).2]
      exact g1589.ext.T hx
    have d : MB T L s b k1595 0 bd := MB.start hS sb q1 q2 q3 (by omega) old (fun x hx => (oldT x hx).2) g1595
    have lp := g1595.1
    have ls := gF_lt sb.1
    have lb := gN_lt sb.2.2.1
    have hn : NE s b h.length (h.length + 1) (h.length + 2) := by
      unfold NE
      omega
    have fq : ∀ k, k < 12 → ¬ (k = 4 ∨ k = 5 ∨ k = 8 ∨ k = 10 ∨ k = 11) → gF k1595 h.length k = some (.int 0) := fun k hk n => by
      rw [g1595.2.1, if_neg (by omega), i2 h.length k (by omega) (fun z => n z.2), g1589.fld]
      exact zDef15 k hk (by omega)
    obtain ⟨j1, j2, j3, j4, j5⟩ := i3
    have up : ∀ x k, 239 ≤ x → gF k1595 x k = gF h1591 x k := fun x k hx => by
      rw [g1595.2.1, if_neg (by omega)]
    have az : AZ h.length (h.length + 1) (h.length + 2) k1595 Fz := by
      refine ⟨fun e he => ?_, ?_, ?_, fun k hk => ?_, fun k hk => ?_, Or.inl rfl, by omega, by omega, by omega, by omega, by omega, by omega⟩
      · simp only [aps, List.mem_cons, List.not_mem_nil, or_false] at he
        rcases he with rfl | rfl | rfl | rfl | rfl | rfl | rfl
        · exact fq 0 (by omega) (by omega)
        · exact fq 1 (by omega) (by omega)
        · exact fq 2 (by omega) (by omega)
        · exact fq 3 (by omega) (by omega)
        · exact fq 6 (by omega) (by omega)
        · exact fq 7 (by omega) (by omega)
        · exact (up _ _ h0).trans j3
      · rw [up _ _ h0, j1, l0]
      · rw [up _ _ h0, j2, l0]
      · rw [up _ _ (by omega), show h.length + 1 = k1589.length by omega, (i4 k hk).1]
        rcases two_k hk with z | z <;> subst z <;> rfl
      · rw [up _ _ (by omega), show h.length + 2 = k1589.length + 1 by omega, (i4 k hk).2]
        rcases two_k hk with z | z <;> subst z <;> rfl
    refine zL_K _ _ _ _ _ _ _ _ _ (zL_pm _ _ _ [(2, _), (0, _), (1, _)] _ _ _ _ _ ⟨(List.forall_mem_cons.mpr ⟨List.mem_cons_self, (List.forall_mem_cons.mpr ⟨(List.mem_cons_of_mem _ List.mem_cons_self), (List.forall_mem_cons.mpr ⟨(List.mem_cons_of_mem _ (List.mem_cons_of_mem _ List.mem_cons_self)), (fun _ h => absurd h List.not_mem_nil)⟩)⟩)⟩), show ([2, 0, 1] : List Nat).Nodup by decide⟩ (C_rd0 hn h0 d az _ _)) (fun o h2 u2 q => ?_)
    obtain ⟨⟨y1, y2, y3⟩, y4, y5⟩ := q
    refine ⟨y4, by omega, fun x k hx n => ?_, fun x hx => ?_, ⟨?_, ?_, ?_⟩, ?_, y5⟩
    · rw [y2 x k n (by omega) (by omega) (by omega), g1595.2.1, if_neg (by omega)]
      exact old x k hx
    · rw [(y3 x).1, (y3 x).2, g1595.2.2.1, g1595.2.2.2]
      exact oldT x hx
    · rw [y2 _ _ (by omega) (by omega) (by omega) (by omega)]
      exact fq 9 (by omega) (by omega)
    · rw [y2 _ _ (by omega) (by omega) (by omega) (by omega), up _ _ h0]
      exact j4
    · rw [y2 _ _ (by omega) (by omega) (by omega) (by omega), up _ _ h0]
      exact j5
    · rw [(y3 _).1, g1595.2.2.1, (i5 _ (by omega)).1, g1589.cn.2]
  · obtain ⟨z, -⟩ := q1591
    cases z
set_option maxRecDepth 20000 in
theorem C_so2F {h : List zC} {c : Int32} (hS : Stc h) (hc : gF h 71 2 = some (.int c)) (h0 : 0 ≤ c.toInt) (h24 : c.toInt ≤ 24) (hCl : ∀ k, k < c.toNatClampNeg → ∃ C : Nat, gF h (73 + 4 * k) 1 = some (.ref C) ∧ 239 ≤ C) : ∀ (n i : Nat) (w w2 : Value) (hk : List zC) (u : Nat), i ≤ c.toNatClampNeg → so2I h hk c i → zL zrx zi n 10 38 [(1, .int (Int32.ofNat i)), (0, .ref 71), (2, w), (3, w2)] [] hk u (fun o h2 _ => so2I h h2 c c.toNatClampNeg ∧ o = .inl none)
  | 0, _, _, _, _, _ => fun _ _ => trivial
  | n + 1, i, w, w2, hk, u => fun hi q => by
    have ck : c.toNatClampNeg = c.toInt.toNat := rfl
    have ki := toNat_ofNat (m := i) (by omega)
    have d1 := q.1.stc hS
    have d2 : gF hk 71 2 = some (.int c) := (q.1.2.1 71 2 (by omega) (by omega)).trans hc
    have hge := q.2.2.1
    have hcu := q.2.2.2
    refine zLp vr_10_38 rfl rfl ?_
    refine zSaload (m := 1) (k := 0) vr_10_39 rfl rfl rfl ?_
    refine zLget vr_10_40 rfl (fun p1597 w1597 e1597 t1597 g1597 => ?_)
    cases e1597
    first | (rw [d2] at g1597; cases g1597) | (rw [(st_71_0 d1)] at g1597; cases g1597) | (rw [hI] at g1597; cases g1597) | (rw [hJ] at g1597; cases g1597) | (rw [hC] at g1597; cases g1597) | (rw [hge] at g1597; cases g1597) | (rw [hex] at g1597; cases g1597) | (rw [hcu2] at g1597; cases g1597) | skip
    refine zSb2 (f := fun x y => decide (y ≤ x)) (off := 88) (t := 131) vr_10_43 rfl rfl rfl (fun x1598 y1598 e1598 f1598 q1598 => ?_) (fun x1598 y1598 e1598 f1598 q1598 => ?_)
    · cases e1598
      cases f1598
      have c1598 := of_decide_eq_true q1598
      refine zSvoid vr_10_131 rfl ?_
      have e : i = c.toNatClampNeg := by
        have y := c1598
        rw [i32_le, ki.2] at y
        omega
      subst e
      exact ⟨q, rfl⟩
    · cases e1598
      cases f1598
      have c1598 := ndc q1598
      have li : i < c.toNatClampNeg := by
        have y := c1598
        rw [i32_le, ki.2] at y
        omega
      have hI : gF hk 72 (Int32.ofNat i).toNatClampNeg = some (.ref (73 + 4 * i)) := by
        rw [ki.1]
        exact st_art d1 (by omega)
      obtain ⟨C, hC0, lC⟩ := hCl i li
      have rC : rf h (73 + 4 * i) 1 = C := rf_of hC0
      have hC : gF hk (73 + 4 * i) 1 = some (.ref C) := (q.1.2.1 _ _ (by omega) (by omega)).trans hC0
      refine zSaload (m := 1) (k := 0) vr_10_46 rfl rfl rfl ?_
      refine zLget vr_10_47 rfl (fun p1601 w1601 e1601 t1601 g1601 => ?_)
      cases e1601
      first | (rw [d2] at g1601; cases g1601) | (rw [(st_71_0 d1)] at g1601; cases g1601) | (rw [hI] at g1601; cases g1601) | (rw [hJ] at g1601; cases g1601) | (rw [hC] at g1601; cases g1601) | (rw [hge] at g1601; cases g1601) | (rw [hex] at g1601; cases g1601) | (rw [hcu2] at g1601; cases g1601) | skip
      refine zSiload (m := 1) (k := 1) vr_10_50 rfl rfl rfl (fun x1602 e1602 => ?_)
      cases e1602
      refine zLaald vr_10_51 rfl (fun p1603 x1603 w1603 e1603 f1603 c1603 t1603 g1603 => ?_)
      cases e1603
      cases f1603
      first | (rw [d2] at g1603; cases g1603) | (rw [(st_71_0 d1)] at g1603; cases g1603) | (rw [hI] at g1603; cases g1603) | (rw [hJ] at g1603; cases g1603) | (rw [hC] at g1603; cases g1603) | (rw [hge] at g1603; cases g1603) | (rw [hex] at g1603; cases g1603) | (rw [hcu2] at g1603; cases g1603) | skip
      refine zLget vr_10_52 rfl (fun p1604 w1604 e1604 t1604 g1604 => ?_)
      cases e1604
      first | (rw [d2] at g1604; cases g1604) | (rw [(st_71_0 d1)] at g1604; cases g1604) | (rw [hI] at g1604; cases g1604) | (rw [hJ] at g1604; cases g1604) | (rw [hC] at g1604; cases g1604) | (rw [hge] at g1604; cases g1604) | (rw [hex] at g1604; cases g1604) | (rw [hcu2] at g1604; cases g1604) | skip
      refine zSastore (m := 1) (k := 2) vr_10_55 rfl rfl ?_
      show zL zrx zi _ 10 56 [(2, _), (1, _), (0, _), (3, _)] [] _ _ _
      refine zSaload (m := 1) (k := 2) vr_10_56 rfl rfl rfl ?_
      refine zLget vr_10_57 rfl (fun p1607 w1607 e1607 t1607 g1607 => ?_)
      cases e1607
      first | (rw [d2] at g1607; cases g1607) | (rw [(st_71_0 d1)] at g1607; cases g1607) | (rw [hI] at g1607; cases g1607) | (rw [hJ] at g1607; cases g1607) | (rw [hC] at g1607; cases g1607) | (rw [hge] at g1607; cases g1607) | (rw [hex] at g1607; cases g1607) | (rw [hcu2] at g1607; cases g1607) | skip
      refine zSistore (m := 1) (k := 3) vr_10_60 rfl rfl (fun x1608 e1608 => ?_)
      cases e1608
      show zL zrx zi _ 10 61 [(3, _), (2, _), (1, _), (0, _)] [] _ _ _
      have eto : toK h i = _ := (congrArg (fun z => iv h z 7) rC).trans (iv_of ((q.1.2.1 C 7 (by omega) (by omega)).symm.trans g1607))
      rw [← eto]
      refine zSiload (m := 1) (k := 3) vr_10_61 rfl rfl rfl (fun x1609 e1609 => ?_)
      cases e1609
      refine zSb1 (f := fun x => decide (x < 0)) (off := 11) (t := 73) vr_10_62 rfl rfl rfl (fun x1610 e1610 q1610 => ?_) (fun x1610 e1610 q1610 => ?_)
      · cases e1610
        have c1610 := of_decide_eq_true q1610
        refine zSaload (m := 1) (k := 0) vr_10_73 rfl rfl rfl ?_
        refine zSdup vr_10_74 rfl ?_
        refine zLget vr_10_75 rfl (fun p1613 w1613 e1613 t1613 g1613 => ?_)
        cases e1613
        first | (rw [d2] at g1613; cases g1613) | (rw [(st_71_0 d1)] at g1613; cases g1613) | (rw [hI] at g1613; cases g1613) | (rw [hJ] at g1613; cases g1613) | (rw [hC] at g1613; cases g1613) | (rw [hge] at g1613; cases g1613) | (rw [hex] at g1613; cases g1613) | (rw [hcu2] at g1613; cases g1613) | skip
        refine zSp0 (pc' := 79) (st' := .int (1) :: _) vr_10_78 rfl rfl ?_
        refine zSiload (m := 1) (k := 1) vr_10_79 rfl rfl rfl (fun x1615 e1615 => ?_)
        cases e1615
        refine zS2 (f := fun x y => .int (x <<< (y &&& 31))) vr_10_80 rfl rfl (fun x1616 y1616 e1616 f1616 => ?_)
        cases e1616
        cases f1616
        refine zS2 (f := fun x y => .int (x ||| y)) vr_10_81 rfl rfl (fun x1617 y1617 e1617 f1617 => ?_)
        cases e1617
        cases f1617
        refine zLput vr_10_82 rfl (fun p1618 k1618 e1618 t1618 g1618 => ?_)
        cases e1618
        refine zSgo (t := 105) vr_10_85 rfl rfl ?_
        refine zSaload (m := 1) (k := 2) vr_10_105 rfl rfl rfl ?_
        refine zLget vr_10_106 rfl (fun p1621 w1621 e1621 t1621 g1621 => ?_)
        cases e1621
        first | (rw [d2] at g1621; cases g1621) | (rw [(st_71_0 d1)] at g1621; cases g1621) | (rw [hI] at g1621; cases g1621) | (rw [hJ] at g1621; cases g1621) | (rw [hC] at g1621; cases g1621) | (rw [hge] at g1621; cases g1621) | (rw [hex] at g1621; cases g1621) | (rw [hcu2] at g1621; cases g1621) | skip
        refine zSp0 (pc' := 110) (st' := .int (-1) :: _) vr_10_109 rfl rfl ?_
        refine zSb2 (f := fun x y => decide (¬ x = y)) (off := 15) (t := 125) vr_10_110 rfl rfl rfl (fun x1623 y1623 e1623 f1623 q1623 => ?_) (fun x1623 y1623 e1623 f1623 q1623 => ?_)
        · cases e1623
          cases f1623
          have c1623 := of_decide_eq_true q1623
          refine zSiinc vr_10_125 rfl rfl (fun x1624 e1624 => ?_)
          cases e1624
          show zL zrx zi _ 10 128 [(1, _), (3, _), (2, _), (0, _)] [] _ _ _
          refine zSgo (t := 38) vr_10_128 rfl rfl ?_
          rw [ofNat_succ]
          have pg : geK h c i = true := decide_eq_true (Or.inl c1610)
          have pe : ∀ a, a < c.toNatClampNeg → exK h i a = false := fun a ha => decide_eq_false (fun z => by
            have z0 : (0 : Int32).toInt = 0 := rfl
            have y := c1610
            rw [z, i32_lt, (toNat_ofNat (m := a) (by omega)).2] at y
            omega)
          have f1 : FS hk k1618 := FS.put g1618 (Or.inl ⟨rfl, Or.inl rfl⟩)
          have eoc : clO h i = _ := (congrArg (fun z => iv h z 6) rC).trans (iv_of ((q.1.2.1 C 6 (by omega) (by omega)).symm.trans ((((g1618.2.1 C 6).trans (if_neg (by omega))).symm).trans g1621)))
          have pc : cuK h i = false := decide_eq_false (fun z => c1623 (eoc.symm.trans z))
          have f2 : FS hk k1618 := f1
          have v3 : gF k1618 71 3 = some (.int (bS (geK h c) (i + 1))) := by
            rw [g1618.2.1, if_pos ⟨rfl, rfl⟩, bS_y pg]
          have v4 : gF k1618 71 4 = some (.int (bS (cuK h) (i + 1))) := by
            rw [g1618.2.1, if_neg (by omega), bS_n pc]
            exact hcu
          have v5 : ∀ a, a < c.toNatClampNeg → gF k1618 (73 + 4 * a) 5 = some (.int (bS (fun k => exK h k a) (i + 1))) := fun a ha => by
            rw [g1618.2.1, if_neg (by omega), bS_n (P := fun k => exK h k a) (pe a ha)]
            exact q.2.1 a ha
          exact zL_pm _ _ _ [(1, _), (0, _), (2, _), (3, _)] _ _ _ _ _ ⟨(List.forall_mem_cons.mpr ⟨List.mem_cons_self, (List.forall_mem_cons.mpr ⟨(List.mem_cons_of_mem _ (List.mem_cons_of_mem _ (List.mem_cons_of_mem _ List.mem_cons_self))), (List.forall_mem_cons.mpr ⟨(List.mem_cons_of_mem _ (List.mem_cons_of_mem _ List.mem_cons_self)), (List.forall_mem_cons.mpr ⟨(List.mem_cons_of_mem _ List.mem_cons_self), (fun _ h => absurd h List.not_mem_nil)⟩)⟩)⟩)⟩), show ([1, 0, 2, 3] : List Nat).Nodup by decide⟩ (C_so2F hS hc h0 h24 hCl n (i + 1) _ _ _ _ (by omega) ⟨q.1.trans f2, v5, v3, v4⟩)
        · cases e1623
          cases f1623
          have c1623 := ndc q1623
          have hcu2 : gF k1618 71 4 = some (.int (bS (cuK h) i)) := (g1618.2.1 71 4).trans ((if_neg (by omega)).trans hcu)
          refine zSaload (m := 1) (k := 0) vr_10_113 rfl rfl rfl ?_
          refine zSdup vr_10_114 rfl ?_
          refine zLget vr_10_115 rfl (fun p1628 w1628 e1628 t1628 g1628 => ?_)
          cases e1628
          first | (rw [d2] at g1628; cases g1628) | (rw [(st_71_0 d1)] at g1628; cases g1628) | (rw [hI] at g1628; cases g1628) | (rw [hJ] at g1628; cases g1628) | (rw [hC] at g1628; cases g1628) | (rw [hge] at g1628; cases g1628) | (rw [hex] at g1628; cases g1628) | (rw [hcu2] at g1628; cases g1628) | skip
          refine zSp0 (pc' := 119) (st' := .int (1) :: _) vr_10_118 rfl rfl ?_
          refine zSiload (m := 1) (k := 1) vr_10_119 rfl rfl rfl (fun x1630 e1630 => ?_)
          cases e1630
          refine zS2 (f := fun x y => .int (x <<< (y &&& 31))) vr_10_120 rfl rfl (fun x1631 y1631 e1631 f1631 => ?_)
          cases e1631
          cases f1631
          refine zS2 (f := fun x y => .int (x ||| y)) vr_10_121 rfl rfl (fun x1632 y1632 e1632 f1632 => ?_)
          cases e1632
          cases f1632
          refine zLput vr_10_122 rfl (fun p1633 k1633 e1633 t1633 g1633 => ?_)
          cases e1633
          refine zSiinc vr_10_125 rfl rfl (fun x1634 e1634 => ?_)
          cases e1634
          show zL zrx zi _ 10 128 [(1, _), (3, _), (2, _), (0, _)] [] _ _ _
          refine zSgo (t := 38) vr_10_128 rfl rfl ?_
          rw [ofNat_succ]
          have pg : geK h c i = true := decide_eq_true (Or.inl c1610)
          have pe : ∀ a, a < c.toNatClampNeg → exK h i a = false := fun a ha => decide_eq_false (fun z => by
            have z0 : (0 : Int32).toInt = 0 := rfl
            have y := c1610
            rw [z, i32_lt, (toNat_ofNat (m := a) (by omega)).2] at y
            omega)
          have f1 : FS hk k1618 := FS.put g1618 (Or.inl ⟨rfl, Or.inl rfl⟩)
          have eoc : clO h i = _ := (congrArg (fun z => iv h z 6) rC).trans (iv_of ((q.1.2.1 C 6 (by omega) (by omega)).symm.trans ((((g1618.2.1 C 6).trans (if_neg (by omega))).symm).trans g1621)))
          have pc : cuK h i = true := decide_eq_true (eoc.trans (Decidable.not_not.mp c1623))
          have f2 : FS hk k1633 := f1.trans (FS.put g1633 (Or.inl ⟨rfl, Or.inr rfl⟩))
          have v3 : gF k1633 71 3 = some (.int (bS (geK h c) (i + 1))) := by
            rw [g1633.2.1, if_neg (by omega), g1618.2.1, if_pos ⟨rfl, rfl⟩, bS_y pg]
          have v4 : gF k1633 71 4 = some (.int (bS (cuK h) (i + 1))) := by
            rw [g1633.2.1, if_pos ⟨rfl, rfl⟩, bS_y pc]
          have v5 : ∀ a, a < c.toNatClampNeg → gF k1633 (73 + 4 * a) 5 = some (.int (bS (fun k => exK h k a) (i + 1))) := fun a ha => by
            rw [g1633.2.1, if_neg (by omega), g1618.2.1, if_neg (by omega), bS_n (P := fun k => exK h k a) (pe a ha)]
            exact q.2.1 a ha
          exact zL_pm _ _ _ [(1, _), (0, _), (2, _), (3, _)] _ _ _ _ _ ⟨(List.forall_mem_cons.mpr ⟨List.mem_cons_self, (List.forall_mem_cons.mpr ⟨(List.mem_cons_of_mem _ (List.mem_cons_of_mem _ (List.mem_cons_of_mem _ List.mem_cons_self))), (List.forall_mem_cons.mpr ⟨(List.mem_cons_of_mem _ (List.mem_cons_of_mem _ List.mem_cons_self)), (List.forall_mem_cons.mpr ⟨(List.mem_cons_of_mem _ List.mem_cons_self), (fun _ h => absurd h List.not_mem_nil)⟩)⟩)⟩)⟩), show ([1, 0, 2, 3] : List Nat).Nodup by decide⟩ (C_so2F hS hc h0 h24 hCl n (i + 1) _ _ _ _ (by omega) ⟨q.1.trans f2, v5, v3, v4⟩)
      · cases e1610
        have c1610 := ndc q1610
        refine zSiload (m := 1) (k := 3) vr_10_65 rfl rfl rfl (fun x1636 e1636 => ?_)
        cases e1636
        refine zSaload (m := 1) (k := 0) vr_10_66 rfl rfl rfl ?_
        refine zLget vr_10_67 rfl (fun p1638 w1638 e1638 t1638 g1638 => ?_)
        cases e1638
        first | (rw [d2] at g1638; cases g1638) | (rw [(st_71_0 d1)] at g1638; cases g1638) | (rw [hI] at g1638; cases g1638) | (rw [hJ] at g1638; cases g1638) | (rw [hC] at g1638; cases g1638) | (rw [hge] at g1638; cases g1638) | (rw [hex] at g1638; cases g1638) | (rw [hcu2] at g1638; cases g1638) | skip
        refine zSb2 (f := fun x y => decide (x < y)) (off := 18) (t := 88) vr_10_70 rfl rfl rfl (fun x1639 y1639 e1639 f1639 q1639 => ?_) (fun x1639 y1639 e1639 f1639 q1639 => ?_)
        · cases e1639
          cases f1639
          have c1639 := of_decide_eq_true q1639
          have z0 : (0 : Int32).toInt = 0 := rfl
          have t0 : 0 ≤ (toK h i).toInt ∧ (toK h i).toInt < c.toInt := by
            have y1 := c1610
            have y2 := c1639
            rw [i32_lt] at y1 y2
            omega
          have tn : (toK h i).toNatClampNeg = (toK h i).toInt.toNat := rfl
          have hJ := st_art d1 (i := (toK h i).toNatClampNeg) (by omega)
          have hex := q.2.1 (toK h i).toNatClampNeg (by omega)
          refine zSaload (m := 1) (k := 0) vr_10_88 rfl rfl rfl ?_
          refine zLget vr_10_89 rfl (fun p1641 w1641 e1641 t1641 g1641 => ?_)
          cases e1641
          first | (rw [d2] at g1641; cases g1641) | (rw [(st_71_0 d1)] at g1641; cases g1641) | (rw [hI] at g1641; cases g1641) | (rw [hJ] at g1641; cases g1641) | (rw [hC] at g1641; cases g1641) | (rw [hge] at g1641; cases g1641) | (rw [hex] at g1641; cases g1641) | (rw [hcu2] at g1641; cases g1641) | skip
          refine zSiload (m := 1) (k := 3) vr_10_92 rfl rfl rfl (fun x1642 e1642 => ?_)
          cases e1642
          refine zLaald vr_10_93 rfl (fun p1643 x1643 w1643 e1643 f1643 c1643 t1643 g1643 => ?_)
          cases e1643
          cases f1643
          first | (rw [d2] at g1643; cases g1643) | (rw [(st_71_0 d1)] at g1643; cases g1643) | (rw [hI] at g1643; cases g1643) | (rw [hJ] at g1643; cases g1643) | (rw [hC] at g1643; cases g1643) | (rw [hge] at g1643; cases g1643) | (rw [hex] at g1643; cases g1643) | (rw [hcu2] at g1643; cases g1643) | skip
          refine zSdup vr_10_94 rfl ?_
          refine zLget vr_10_95 rfl (fun p1645 w1645 e1645 t1645 g1645 => ?_)
          cases e1645
          first | (rw [d2] at g1645; cases g1645) | (rw [(st_71_0 d1)] at g1645; cases g1645) | (rw [hI] at g1645; cases g1645) | (rw [hJ] at g1645; cases g1645) | (rw [hC] at g1645; cases g1645) | (rw [hge] at g1645; cases g1645) | (rw [hex] at g1645; cases g1645) | (rw [hcu2] at g1645; cases g1645) | skip
          refine zSp0 (pc' := 99) (st' := .int (1) :: _) vr_10_98 rfl rfl ?_
          refine zSiload (m := 1) (k := 1) vr_10_99 rfl rfl rfl (fun x1647 e1647 => ?_)
          cases e1647
          refine zS2 (f := fun x y => .int (x <<< (y &&& 31))) vr_10_100 rfl rfl (fun x1648 y1648 e1648 f1648 => ?_)
          cases e1648
          cases f1648
          refine zS2 (f := fun x y => .int (x ||| y)) vr_10_101 rfl rfl (fun x1649 y1649 e1649 f1649 => ?_)
          cases e1649
          cases f1649
          refine zLput vr_10_102 rfl (fun p1650 k1650 e1650 t1650 g1650 => ?_)
          cases e1650
          refine zSaload (m := 1) (k := 2) vr_10_105 rfl rfl rfl ?_
          refine zLget vr_10_106 rfl (fun p1652 w1652 e1652 t1652 g1652 => ?_)
          cases e1652
          first | (rw [d2] at g1652; cases g1652) | (rw [(st_71_0 d1)] at g1652; cases g1652) | (rw [hI] at g1652; cases g1652) | (rw [hJ] at g1652; cases g1652) | (rw [hC] at g1652; cases g1652) | (rw [hge] at g1652; cases g1652) | (rw [hex] at g1652; cases g1652) | (rw [hcu2] at g1652; cases g1652) | skip
          refine zSp0 (pc' := 110) (st' := .int (-1) :: _) vr_10_109 rfl rfl ?_
          refine zSb2 (f := fun x y => decide (¬ x = y)) (off := 15) (t := 125) vr_10_110 rfl rfl rfl (fun x1654 y1654 e1654 f1654 q1654 => ?_) (fun x1654 y1654 e1654 f1654 q1654 => ?_)
          · cases e1654
            cases f1654
            have c1654 := of_decide_eq_true q1654
            refine zSiinc vr_10_125 rfl rfl (fun x1655 e1655 => ?_)
            cases e1655
            show zL zrx zi _ 10 128 [(1, _), (3, _), (2, _), (0, _)] [] _ _ _
            refine zSgo (t := 38) vr_10_128 rfl rfl ?_
            rw [ofNat_succ]
            have pg : geK h c i = false := decide_eq_false (fun z => z.elim c1610 (fun y => absurd c1639 (Int32.not_lt.mpr y)))
            have f1 : FS hk k1650 := FS.put g1650 (Or.inr ⟨by omega, by omega, rfl⟩)
            have eoc : clO h i = _ := (congrArg (fun z => iv h z 6) rC).trans (iv_of ((q.1.2.1 C 6 (by omega) (by omega)).symm.trans ((((g1650.2.1 C 6).trans (if_neg (by omega))).symm).trans g1652)))
            have pc : cuK h i = false := decide_eq_false (fun z => c1654 (eoc.symm.trans z))
            have f2 : FS hk k1650 := f1
            have v3 : gF k1650 71 3 = some (.int (bS (geK h c) (i + 1))) := by
              rw [g1650.2.1, if_neg (by omega), bS_n pg]
              exact hge
            have v4 : gF k1650 71 4 = some (.int (bS (cuK h) (i + 1))) := by
              rw [g1650.2.1, if_neg (by omega), bS_n pc]
              exact hcu
            have v5 : ∀ a, a < c.toNatClampNeg → gF k1650 (73 + 4 * a) 5 = some (.int (bS (fun k => exK h k a) (i + 1))) := fun a ha => by
              by_cases z : a = (toK h i).toNatClampNeg
              · subst z
                rw [g1650.2.1, if_pos ⟨rfl, rfl⟩, bS_y (P := fun k => exK h k (toK h i).toNatClampNeg) (decide_eq_true (ofn_nat t0.1))]
              · rw [g1650.2.1, if_neg (by omega), bS_n (P := fun k => exK h k a) (decide_eq_false (fun y => z (by rw [y, (toNat_ofNat (m := a) (by omega)).1])))]
                exact q.2.1 a ha
            exact zL_pm _ _ _ [(1, _), (0, _), (2, _), (3, _)] _ _ _ _ _ ⟨(List.forall_mem_cons.mpr ⟨List.mem_cons_self, (List.forall_mem_cons.mpr ⟨(List.mem_cons_of_mem _ (List.mem_cons_of_mem _ (List.mem_cons_of_mem _ List.mem_cons_self))), (List.forall_mem_cons.mpr ⟨(List.mem_cons_of_mem _ (List.mem_cons_of_mem _ List.mem_cons_self)), (List.forall_mem_cons.mpr ⟨(List.mem_cons_of_mem _ List.mem_cons_self), (fun _ h => absurd h List.not_mem_nil)⟩)⟩)⟩)⟩), show ([1, 0, 2, 3] : List Nat).Nodup by decide⟩ (C_so2F hS hc h0 h24 hCl n (i + 1) _ _ _ _ (by omega) ⟨q.1.trans f2, v5, v3, v4⟩)
          · cases e1654
            cases f1654
            have c1654 := ndc q1654
            have hcu2 : gF k1650 71 4 = some (.int (bS (cuK h) i)) := (g1650.2.1 71 4).trans ((if_neg (by omega)).trans hcu)
            refine zSaload (m := 1) (k := 0) vr_10_113 rfl rfl rfl ?_
            refine zSdup vr_10_114 rfl ?_
            refine zLget vr_10_115 rfl (fun p1659 w1659 e1659 t1659 g1659 => ?_)
            cases e1659
            first | (rw [d2] at g1659; cases g1659) | (rw [(st_71_0 d1)] at g1659; cases g1659) | (rw [hI] at g1659; cases g1659) | (rw [hJ] at g1659; cases g1659) | (rw [hC] at g1659; cases g1659) | (rw [hge] at g1659; cases g1659) | (rw [hex] at g1659; cases g1659) | (rw [hcu2] at g1659; cases g1659) | skip
            refine zSp0 (pc' := 119) (st' := .int (1) :: _) vr_10_118 rfl rfl ?_
            refine zSiload (m := 1) (k := 1) vr_10_119 rfl rfl rfl (fun x1661 e1661 => ?_)
            cases e1661
            refine zS2 (f := fun x y => .int (x <<< (y &&& 31))) vr_10_120 rfl rfl (fun x1662 y1662 e1662 f1662 => ?_)
            cases e1662
            cases f1662
            refine zS2 (f := fun x y => .int (x ||| y)) vr_10_121 rfl rfl (fun x1663 y1663 e1663 f1663 => ?_)
            cases e1663
            cases f1663
            refine zLput vr_10_122 rfl (fun p1664 k1664 e1664 t1664 g1664 => ?_)
            cases e1664
            refine zSiinc vr_10_125 rfl rfl (fun x1665 e1665 => ?_)
            cases e1665
            show zL zrx zi _ 10 128 [(1, _), (3, _), (2, _), (0, _)] [] _ _ _
            refine zSgo (t := 38) vr_10_128 rfl rfl ?_
            rw [ofNat_succ]
            have pg : geK h c i = false := decide_eq_false (fun z => z.elim c1610 (fun y => absurd c1639 (Int32.not_lt.mpr y)))
            have f1 : FS hk k1650 := FS.put g1650 (Or.inr ⟨by omega, by omega, rfl⟩)
            have eoc : clO h i = _ := (congrArg (fun z => iv h z 6) rC).trans (iv_of ((q.1.2.1 C 6 (by omega) (by omega)).symm.trans ((((g1650.2.1 C 6).trans (if_neg (by omega))).symm).trans g1652)))
            have pc : cuK h i = true := decide_eq_true (eoc.trans (Decidable.not_not.mp c1654))
            have f2 : FS hk k1664 := f1.trans (FS.put g1664 (Or.inl ⟨rfl, Or.inr rfl⟩))
            have v3 : gF k1664 71 3 = some (.int (bS (geK h c) (i + 1))) := by
              rw [g1664.2.1, if_neg (by omega), g1650.2.1, if_neg (by omega), bS_n pg]
              exact hge
            have v4 : gF k1664 71 4 = some (.int (bS (cuK h) (i + 1))) := by
              rw [g1664.2.1, if_pos ⟨rfl, rfl⟩, bS_y pc]
            have v5 : ∀ a, a < c.toNatClampNeg → gF k1664 (73 + 4 * a) 5 = some (.int (bS (fun k => exK h k a) (i + 1))) := fun a ha => by
              by_cases z : a = (toK h i).toNatClampNeg
              · subst z
                rw [g1664.2.1, if_neg (by omega), g1650.2.1, if_pos ⟨rfl, rfl⟩, bS_y (P := fun k => exK h k (toK h i).toNatClampNeg) (decide_eq_true (ofn_nat t0.1))]
              · rw [g1664.2.1, if_neg (by omega), g1650.2.1, if_neg (by omega), bS_n (P := fun k => exK h k a) (decide_eq_false (fun y => z (by rw [y, (toNat_ofNat (m := a) (by omega)).1])))]
                exact q.2.1 a ha
            exact zL_pm _ _ _ [(1, _), (0, _), (2, _), (3, _)] _ _ _ _ _ ⟨(List.forall_mem_cons.mpr ⟨List.mem_cons_self, (List.forall_mem_cons.mpr ⟨(List.mem_cons_of_mem _ (List.mem_cons_of_mem _ (List.mem_cons_of_mem _ List.mem_cons_self))), (List.forall_mem_cons.mpr ⟨(List.mem_cons_of_mem _ (List.mem_cons_of_mem _ List.mem_cons_self)), (List.forall_mem_cons.mpr ⟨(List.mem_cons_of_mem _ List.mem_cons_self), (fun _ h => absurd h List.not_mem_nil)⟩)⟩)⟩)⟩), show ([1, 0, 2, 3] : List Nat).Nodup by decide⟩ (C_so2F hS hc h0 h24 hCl n (i + 1) _ _ _ _ (by omega) ⟨q.1.trans f2, v5, v3, v4⟩)
        · cases e1639
          cases f1639
          have c1639 := ndc q1639
          refine zSaload (m := 1) (k := 0) vr_10_73 rfl rfl rfl ?_
          refine zSdup vr_10_74 rfl ?_
          refine zLget vr_10_75 rfl (fun p1669 w1669 e1669 t1669 g1669 => ?_)
          cases e1669
          first | (rw [d2] at g1669; cases g1669) | (rw [(st_71_0 d1)] at g1669; cases g1669) | (rw [hI] at g1669; cases g1669) | (rw [hJ] at g1669; cases g1669) | (rw [hC] at g1669; cases g1669) | (rw [hge] at g1669; cases g1669) | (rw [hex] at g1669; cases g1669) | (rw [hcu2] at g1669; cases g1669) | skip
          refine zSp0 (pc' := 79) (st' := .int (1) :: _) vr_10_78 rfl rfl ?_
          refine zSiload (m := 1) (k := 1) vr_10_79 rfl rfl rfl (fun x1671 e1671 => ?_)
          cases e1671
          refine zS2 (f := fun x y => .int (x <<< (y &&& 31))) vr_10_80 rfl rfl (fun x1672 y1672 e1672 f1672 => ?_)
          cases e1672
          cases f1672
          refine zS2 (f := fun x y => .int (x ||| y)) vr_10_81 rfl rfl (fun x1673 y1673 e1673 f1673 => ?_)
          cases e1673
          cases f1673
          refine zLput vr_10_82 rfl (fun p1674 k1674 e1674 t1674 g1674 => ?_)
          cases e1674
          refine zSgo (t := 105) vr_10_85 rfl rfl ?_
          refine zSaload (m := 1) (k := 2) vr_10_105 rfl rfl rfl ?_
          refine zLget vr_10_106 rfl (fun p1677 w1677 e1677 t1677 g1677 => ?_)
          cases e1677
          first | (rw [d2] at g1677; cases g1677) | (rw [(st_71_0 d1)] at g1677; cases g1677) | (rw [hI] at g1677; cases g1677) | (rw [hJ] at g1677; cases g1677) | (rw [hC] at g1677; cases g1677) | (rw [hge] at g1677; cases g1677) | (rw [hex] at g1677; cases g1677) | (rw [hcu2] at g1677; cases g1677) | skip
          refine zSp0 (pc' := 110) (st' := .int (-1) :: _) vr_10_109 rfl rfl ?_
          refine zSb2 (f := fun x y => decide (¬ x = y)) (off := 15) (t := 125) vr_10_110 rfl rfl rfl (fun x1679 y1679 e1679 f1679 q1679 => ?_) (fun x1679 y1679 e1679 f1679 q1679 => ?_)
          · cases e1679
            cases f1679
            have c1679 := of_decide_eq_true q1679
            refine zSiinc vr_10_125 rfl rfl (fun x1680 e1680 => ?_)
            cases e1680
            show zL zrx zi _ 10 128 [(1, _), (3, _), (2, _), (0, _)] [] _ _ _
            refine zSgo (t := 38) vr_10_128 rfl rfl ?_
            rw [ofNat_succ]
            have pg : geK h c i = true := decide_eq_true (Or.inr (Int32.not_lt.mp c1639))
            have pe : ∀ a, a < c.toNatClampNeg → exK h i a = false := fun a ha => decide_eq_false (fun z => by
              have z0 : (0 : Int32).toInt = 0 := rfl
              have y := c1639
              rw [z, i32_lt, (toNat_ofNat (m := a) (by omega)).2] at y
              omega)
            have f1 : FS hk k1674 := FS.put g1674 (Or.inl ⟨rfl, Or.inl rfl⟩)
            have eoc : clO h i = _ := (congrArg (fun z => iv h z 6) rC).trans (iv_of ((q.1.2.1 C 6 (by omega) (by omega)).symm.trans ((((g1674.2.1 C 6).trans (if_neg (by omega))).symm).trans g1677)))
            have pc : cuK h i = false := decide_eq_false (fun z => c1679 (eoc.symm.trans z))
            have f2 : FS hk k1674 := f1
            have v3 : gF k1674 71 3 = some (.int (bS (geK h c) (i + 1))) := by
              rw [g1674.2.1, if_pos ⟨rfl, rfl⟩, bS_y pg]
            have v4 : gF k1674 71 4 = some (.int (bS (cuK h) (i + 1))) := by
              rw [g1674.2.1, if_neg (by omega), bS_n pc]
              exact hcu
            have v5 : ∀ a, a < c.toNatClampNeg → gF k1674 (73 + 4 * a) 5 = some (.int (bS (fun k => exK h k a) (i + 1))) := fun a ha => by
              rw [g1674.2.1, if_neg (by omega), bS_n (P := fun k => exK h k a) (pe a ha)]
              exact q.2.1 a ha
            exact zL_pm _ _ _ [(1, _), (0, _), (2, _), (3, _)] _ _ _ _ _ ⟨(List.forall_mem_cons.mpr ⟨List.mem_cons_self, (List.forall_mem_cons.mpr ⟨(List.mem_cons_of_mem _ (List.mem_cons_of_mem _ (List.mem_cons_of_mem _ List.mem_cons_self))), (List.forall_mem_cons.mpr ⟨(List.mem_cons_of_mem _ (List.mem_cons_of_mem _ List.mem_cons_self)), (List.forall_mem_cons.mpr ⟨(List.mem_cons_of_mem _ List.mem_cons_self), (fun _ h => absurd h List.not_mem_nil)⟩)⟩)⟩)⟩), show ([1, 0, 2, 3] : List Nat).Nodup by decide⟩ (C_so2F hS hc h0 h24 hCl n (i + 1) _ _ _ _ (by omega) ⟨q.1.trans f2, v5, v3, v4⟩)
          · cases e1679
            cases f1679
            have c1679 := ndc q1679
            have hcu2 : gF k1674 71 4 = some (.int (bS (cuK h) i)) := (g1674.2.1 71 4).trans ((if_neg (by omega)).trans hcu)
            refine zSaload (m := 1) (k := 0) vr_10_113 rfl rfl rfl ?_
            refine zSdup vr_10_114 rfl ?_
            refine zLget vr_10_115 rfl (fun p1684 w1684 e1684 t1684 g1684 => ?_)
            cases e1684
            first | (rw [d2] at g1684; cases g1684) | (rw [(st_71_0 d1)] at g1684; cases g1684) | (rw [hI] at g1684; cases g1684) | (rw [hJ] at g1684; cases g1684) | (rw [hC] at g1684; cases g1684) | (rw [hge] at g1684; cases g1684) | (rw [hex] at g1684; cases g1684) | (rw [hcu2] at g1684; cases g1684) | skip
            refine zSp0 (pc' := 119) (st' := .int (1) :: _) vr_10_118 rfl rfl ?_
            refine zSiload (m := 1) (k := 1) vr_10_119 rfl rfl rfl (fun x1686 e1686 => ?_)
            cases e1686
            refine zS2 (f := fun x y => .int (x <<< (y &&& 31))) vr_10_120 rfl rfl (fun x1687 y1687 e1687 f1687 => ?_)
            cases e1687
            cases f1687
            refine zS2 (f := fun x y => .int (x ||| y)) vr_10_121 rfl rfl (fun x1688 y1688 e1688 f1688 => ?_)
            cases e1688
            cases f1688
            refine zLput vr_10_122 rfl (fun p1689 k1689 e1689 t1689 g1689 => ?_)
            cases e1689
            refine zSiinc vr_10_125 rfl rfl (fun x1690 e1690 => ?_)
            cases e1690
            show zL zrx zi _ 10 128 [(1, _), (3, _), (2, _), (0, _)] [] _ _ _
            refine zSgo (t := 38) vr_10_128 rfl rfl ?_
            rw [ofNat_succ]
            have pg : geK h c i = true := decide_eq_true (Or.inr (Int32.not_lt.mp c1639))
            have pe : ∀ a, a < c.toNatClampNeg → exK h i a = false := fun a ha => decide_eq_false (fun z => by
              have z0 : (0 : Int32).toInt = 0 := rfl
              have y := c1639
              rw [z, i32_lt, (toNat_ofNat (m := a) (by omega)).2] at y
              omega)
            have f1 : FS hk k1674 := FS.put g1674 (Or.inl ⟨rfl, Or.inl rfl⟩)
            have eoc : clO h i = _ := (congrArg (fun z => iv h z 6) rC).trans (iv_of ((q.1.2.1 C 6 (by omega) (by omega)).symm.trans ((((g1674.2.1 C 6).trans (if_neg (by omega))).symm).trans g1677)))
            have pc : cuK h i = true := decide_eq_true (eoc.trans (Decidable.not_not.mp c1679))
            have f2 : FS hk k1689 := f1.trans (FS.put g1689 (Or.inl ⟨rfl, Or.inr rfl⟩))
            have v3 : gF k1689 71 3 = some (.int (bS (geK h c) (i + 1))) := by
              rw [g1689.2.1, if_neg (by omega), g1674.2.1, if_pos ⟨rfl, rfl⟩, bS_y pg]
            have v4 : gF k1689 71 4 = some (.int (bS (cuK h) (i + 1))) := by
              rw [g1689.2.1, if_pos ⟨rfl, rfl⟩, bS_y pc]
            have v5 : ∀ a, a < c.toNatClampNeg → gF k1689 (73 + 4 * a) 5 = some (.int (bS (fun k => exK h k a) (i + 1))) := fun a ha => by
              rw [g1689.2.1, if_neg (by omega), g1674.2.1, if_neg (by omega), bS_n (P := fun k => exK h k a) (pe a ha)]
              exact q.2.1 a ha
            exact zL_pm _ _ _ [(1, _), (0, _), (2, _), (3, _)] _ _ _ _ _ ⟨(List.forall_mem_cons.mpr ⟨List.mem_cons_self, (List.forall_mem_cons.mpr ⟨(List.mem_cons_of_mem _ (List.mem_cons_of_mem _ (List.mem_cons_of_mem _ List.mem_cons_self))), (List.forall_mem_cons.mpr ⟨(List.mem_cons_of_mem _ (List.mem_cons_of_mem _ List.mem_cons_self)), (List.forall_mem_cons.mpr ⟨(List.mem_cons_of_mem _ List.mem_cons_self), (fun _ h => absurd h List.not_mem_nil)⟩)⟩)⟩)⟩), show ([1, 0, 2, 3] : List Nat).Nodup by decide⟩ (C_so2F hS hc h0 h24 hCl n (i + 1) _ _ _ _ (by omega) ⟨q.1.trans f2, v5, v3, v4⟩)
set_option maxRecDepth 20000 in
theorem C_so1F {h : List zC} {c : Int32} (hS : Stc h) (hc : gF h 71 2 = some (.int c)) (h0 : 0 ≤ c.toInt) (h24 : c.toInt ≤ 24) (hCl : ∀ k, k < c.toNatClampNeg → ∃ C : Nat, gF h (73 + 4 * k) 1 = some (.ref C) ∧ 239 ≤ C) : ∀ (n i : Nat) (hk : List zC) (u : Nat), i ≤ c.toNatClampNeg → so1I h hk i → zL zrx zi n 10 12 [(1, .int (Int32.ofNat i)), (0, .ref 71)] [] hk u (fun o h2 _ => so2I h h2 c c.toNatClampNeg ∧ o = .inl none)
  | 0, _, _, _ => fun _ _ => trivial
  | n + 1, i, hk, u => fun hi q => by
    have ck : c.toNatClampNeg = c.toInt.toNat := rfl
    have ki := toNat_ofNat (m := i) (by omega)
    have d1 := q.1.stc hS
    have d2 : gF hk 71 2 = some (.int c) := (q.1.2.1 71 2 (by omega) (by omega)).trans hc
    refine zLp vr_10_12 rfl rfl ?_
    refine zSaload (m := 1) (k := 0) vr_10_13 rfl rfl rfl ?_
    refine zLget vr_10_14 rfl (fun p1693 w1693 e1693 t1693 g1693 => ?_)
    cases e1693
    first | (rw [d2] at g1693; cases g1693) | (rw [(st_71_0 d1)] at g1693; cases g1693) | (rw [hI] at g1693; cases g1693) | skip
    refine zSb2 (f := fun x y => decide (y ≤ x)) (off := 19) (t := 36) vr_10_17 rfl rfl rfl (fun x1694 y1694 e1694 f1694 q1694 => ?_) (fun x1694 y1694 e1694 f1694 q1694 => ?_)
    · cases e1694
      cases f1694
      have c1694 := of_decide_eq_true q1694
      refine zSp0 (pc' := 37) (st' := .int (0) :: _) vr_10_36 rfl rfl ?_
      refine zSistore (m := 1) (k := 1) vr_10_37 rfl rfl (fun x1696 e1696 => ?_)
      cases e1696
      show zL zrx zi _ 10 38 [(1, _), (0, _)] [] _ _ _
      have e : i = c.toNatClampNeg := by
        have y := c1694
        rw [i32_le, ki.2] at y
        omega
      exact zL_pm _ _ _ [(1, _), (0, _), (2, _), (3, _)] _ _ _ _ _ ⟨(List.forall_mem_cons.mpr ⟨List.mem_cons_self, (List.forall_mem_cons.mpr ⟨(List.mem_cons_of_mem _ List.mem_cons_self), (fun _ h => absurd h List.not_mem_nil)⟩)⟩), show ([1, 0, 2, 3] : List Nat).Nodup by decide⟩ (C_so2F hS hc h0 h24 hCl _ 0 .null .null _ _ (Nat.zero_le _) ⟨q.1, fun a ha => q.2.1 a (by omega), q.2.2.1, q.2.2.2⟩)
    · cases e1694
      cases f1694
      have c1694 := ndc q1694
      have li : i < c.toNatClampNeg := by
        have y := c1694
        rw [i32_le, ki.2] at y
        omega
      have hI : gF hk 72 (Int32.ofNat i).toNatClampNeg = some (.ref (73 + 4 * i)) := by
        rw [ki.1]
        exact st_art d1 (by omega)
      refine zSaload (m := 1) (k := 0) vr_10_20 rfl rfl rfl ?_
      refine zLget vr_10_21 rfl (fun p1698 w1698 e1698 t1698 g1698 => ?_)
      cases e1698
      first | (rw [d2] at g1698; cases g1698) | (rw [(st_71_0 d1)] at g1698; cases g1698) | (rw [hI] at g1698; cases g1698) | skip
      refine zSiload (m := 1) (k := 1) vr_10_24 rfl rfl rfl (fun x1699 e1699 => ?_)
      cases e1699
      refine zLaald vr_10_25 rfl (fun p1700 x1700 w1700 e1700 f1700 c1700 t1700 g1700 => ?_)
      cases e1700
      cases f1700
      first | (rw [d2] at g1700; cases g1700) | (rw [(st_71_0 d1)] at g1700; cases g1700) | (rw [hI] at g1700; cases g1700) | skip
      refine zSp0 (pc' := 27) (st' := .int (0) :: _) vr_10_26 rfl rfl ?_
      refine zLput vr_10_27 rfl (fun p1702 k1702 e1702 t1702 g1702 => ?_)
      cases e1702
      refine zSiinc vr_10_30 rfl rfl (fun x1703 e1703 => ?_)
      cases e1703
      show zL zrx zi _ 10 33 [(1, _), (0, _)] [] _ _ _
      refine zSgo (t := 12) vr_10_33 rfl rfl ?_
      rw [ofNat_succ]
      have f1 : FS hk k1702 := FS.put g1702 (Or.inr ⟨by omega, by omega, rfl⟩)
      refine zL_pm _ _ _ [(1, _), (0, _)] _ _ _ _ _ ⟨(List.forall_mem_cons.mpr ⟨List.mem_cons_self, (List.forall_mem_cons.mpr ⟨(List.mem_cons_of_mem _ List.mem_cons_self), (fun _ h => absurd h List.not_mem_nil)⟩)⟩), show ([1, 0] : List Nat).Nodup by decide⟩ (C_so1F hS hc h0 h24 hCl n (i + 1) _ _ (by omega) ⟨q.1.trans f1, fun a ha => ?_, ?_, ?_⟩)
      · by_cases z : a = i
        · subst z
          rw [g1702.2.1, if_pos ⟨rfl, rfl⟩]
        · rw [g1702.2.1, if_neg (by omega)]
          exact q.2.1 a (by omega)
      · rw [g1702.2.1, if_neg (by omega)]
        exact q.2.2.1
      · rw [g1702.2.1, if_neg (by omega)]
        exact q.2.2.2
theorem C_sortF (n : Nat)  (h : List zC) (u : Nat) {c : Int32} (hS : Stc h) (hc : gF h 71 2 = some (.int c)) (h0 : 0 ≤ c.toInt) (h24 : c.toInt ≤ 24) (hCl : ∀ k, k < c.toNatClampNeg → ∃ C : Nat, gF h (73 + 4 * k) 1 = some (.ref C) ∧ 239 ≤ C) : zL zrx zi n 10 0 [(0, .ref 71)] [] h u (fun o h2 _ => FS h h2 ∧ srtF h2 c ∧ o = .inl none) := by
  refine zSaload (m := 1) (k := 0) vr_10_0 rfl rfl rfl ?_
  refine zSp0 (pc' := 2) (st' := .int (0) :: _) vr_10_1 rfl rfl ?_
  refine zLput vr_10_2 rfl (fun p1707 k1707 e1707 t1707 g1707 => ?_)
  cases e1707
  refine zSaload (m := 1) (k := 0) vr_10_5 rfl rfl rfl ?_
  refine zSp0 (pc' := 7) (st' := .int (0) :: _) vr_10_6 rfl rfl ?_
  refine zLput vr_10_7 rfl (fun p1710 k1710 e1710 t1710 g1710 => ?_)
  cases e1710
  refine zSp0 (pc' := 11) (st' := .int (0) :: _) vr_10_10 rfl rfl ?_
  refine zSistore (m := 1) (k := 1) vr_10_11 rfl rfl (fun x1712 e1712 => ?_)
  cases e1712
  show zL zrx zi _ 10 12 [(1, _), (0, _)] [] _ _ _
  have ff := (FS.put g1707 (Or.inl ⟨rfl, Or.inl rfl⟩)).trans (FS.put g1710 (Or.inl ⟨rfl, Or.inr rfl⟩))
  refine zL_K _ _ _ _ _ _ _ _ _ (zL_pm _ _ _ [(1, _), (0, _)] _ _ _ _ _ ⟨(List.forall_mem_cons.mpr ⟨List.mem_cons_self, (List.forall_mem_cons.mpr ⟨(List.mem_cons_of_mem _ List.mem_cons_self), (fun _ h => absurd h List.not_mem_nil)⟩)⟩), show ([1, 0] : List Nat).Nodup by decide⟩ (C_so1F hS hc h0 h24 hCl _ 0 _ _ (Nat.zero_le _) ⟨ff, fun a ha => absurd ha (Nat.not_lt_zero a), ?_, ?_⟩)) (fun o h2 u2 q => ⟨q.1.1, q.1.done h0 h24 hCl, q.2⟩)
  · rw [g1710.2.1, if_neg (by omega), g1707.2.1, if_pos ⟨rfl, rfl⟩]
  · rw [g1710.2.1, if_pos ⟨rfl, rfl⟩]
theorem C_put (n : Nat) (nb : Int32) (C : Nat) (h : List zC) (u : Nat) {c : Int32} (h1 : 0 ≤ nb.toInt) (h2 : nb.toInt < 24) (hc : c.toInt ≤ 24) (d1 : Stc h) (d2 : gF h 71 2 = some (.int c)) (hc0 : 0 ≤ c.toInt) (hnc : nb.toInt ≤ c.toInt) (lC : 239 ≤ C) (hCl : ∀ k, k < c.toNatClampNeg → ∃ C : Nat, gF h (73 + 4 * k) 1 = some (.ref C) ∧ 239 ≤ C) : zL zrx zi n 9 0 [(0, .ref 71), (1, .int nb), (2, .ref C)] [] h u (fun o h2 _ => o = .inl none ∧ PT h h2 nb.toNatClampNeg C (mxI c (nb + 1)) ∧ srtF h2 (mxI c (nb + 1))) := by
  refine zSiload (m := 1) (k := 1) vr_9_0 rfl rfl rfl (fun x1830 e1830 => ?_)
  cases e1830
  refine zSb1 (f := fun x => decide (x < 0)) (off := 9) (t := 10) vr_9_1 rfl rfl rfl (fun x1831 e1831 q1831 => ?_) (fun x1831 e1831 q1831 => ?_)
  · cases e1831
    have c1831 := of_decide_eq_true q1831
    refine zSvoid vr_9_10 rfl ?_
    exfalso
    have z0 : (0 : Int32).toInt = 0 := rfl
    have z24 : (24 : Int32).toInt = 24 := rfl
    first
      | (have y := c1831
         rw [i32_lt] at y
         omega)
      | (have y := c1827
         rw [i32_lt] at y
         omega)
  · cases e1831
    have c1831 := ndc q1831
    refine zSiload (m := 1) (k := 1) vr_9_4 rfl rfl rfl (fun x1833 e1833 => ?_)
    cases e1833
    refine zSp0 (pc' := 7) (st' := .int (24) :: _) vr_9_5 rfl rfl ?_
    refine zSb2 (f := fun x y => decide (x < y)) (off := 4) (t := 11) vr_9_7 rfl rfl rfl (fun x1835 y1835 e1835 f1835 q1835 => ?_) (fun x1835 y1835 e1835 f1835 q1835 => ?_)
    · cases e1835
      cases f1835
      have c1835 := of_decide_eq_true q1835
      have n24 := n24_of h1 h2
      have hI := st_art d1 n24
      refine zSaload (m := 1) (k := 0) vr_9_11 rfl rfl rfl ?_
      refine zLget vr_9_12 rfl (fun p1837 w1837 e1837 t1837 g1837 => ?_)
      cases e1837
      first | (rw [(st_71_0 d1)] at g1837; cases g1837) | (rw [hI] at g1837; cases g1837) | (rw [hC] at g1837; cases g1837) | skip
      refine zSiload (m := 1) (k := 1) vr_9_15 rfl rfl rfl (fun x1838 e1838 => ?_)
      cases e1838
      refine zLaald vr_9_16 rfl (fun p1839 x1839 w1839 e1839 f1839 c1839 t1839 g1839 => ?_)
      cases e1839
      cases f1839
      first | (rw [(st_71_0 d1)] at g1839; cases g1839) | (rw [hI] at g1839; cases g1839) | (rw [hC] at g1839; cases g1839) | skip
      refine zSaload (m := 1) (k := 2) vr_9_17 rfl rfl rfl ?_
      refine zLput vr_9_18 rfl (fun p1841 k1841 e1841 t1841 g1841 => ?_)
      cases e1841
      have hC := (g1841.2.1 71 2).trans ((if_neg (by omega)).trans d2)
      refine zSaload (m := 1) (k := 0) vr_9_21 rfl rfl rfl ?_
      refine zSaload (m := 1) (k := 0) vr_9_22 rfl rfl rfl ?_
      refine zLget vr_9_23 rfl (fun p1844 w1844 e1844 t1844 g1844 => ?_)
      cases e1844
      first | (rw [(st_71_0 d1)] at g1844; cases g1844) | (rw [hI] at g1844; cases g1844) | (rw [hC] at g1844; cases g1844) | skip
      refine zSiload (m := 1) (k := 1) vr_9_26 rfl rfl rfl (fun x1845 e1845 => ?_)
      cases e1845
      refine zSp0 (pc' := 28) (st' := .int (1) :: _) vr_9_27 rfl rfl ?_
      refine zS2 (f := fun x y => .int (x + y)) vr_9_28 rfl rfl (fun x1847 y1847 e1847 f1847 => ?_)
      cases e1847
      cases f1847
      refine zScall vr_9_29 rfl rfl rfl (fun m1848 _ => C_mxI _ _ _ _ _) (fun v1848 h1848 u1848 q1848 => ?_) (fun E1848 h1848 u1848 q1848 => ?_)
      · obtain ⟨eh1848, z1848⟩ := q1848
        subst eh1848
        cases z1848
        show zL zrx zi _ 9 32 [(0, _), (1, _), (2, _)] [_, _] _ _ _
        refine zLput vr_9_32 rfl (fun p1849 k1849 e1849 t1849 g1849 => ?_)
        cases e1849
        have s2 := (d1.put g1841 (art_st n24)).fld g1849 (by decide +kernel)
        have c3 := (g1849.2.1 71 2).trans (if_pos ⟨rfl, rfl⟩)
        have cl3 : ∀ k, k < (mxI c (nb + 1)).toNatClampNeg → ∃ C : Nat, gF k1849 (73 + 4 * k) 1 = some (.ref C) ∧ 239 ≤ C := fun k hk => by
          by_cases z : k = nb.toNatClampNeg
          · subst z
            exact ⟨C, by rw [g1849.2.1, if_neg (by omega), g1841.2.1, if_pos ⟨rfl, rfl⟩], lC⟩
          · obtain ⟨C', q1, q2⟩ := hCl k (nb2 h1 h2 hc0 hc hnc hk z)
            exact ⟨C', by rw [g1849.2.1, if_neg (by omega), g1841.2.1, if_neg (by omega)]; exact q1, q2⟩
        refine zSaload (m := 1) (k := 0) vr_9_35 rfl rfl rfl ?_
        refine zScall vr_9_36 rfl rfl rfl (fun m1851 _ => C_sortF _ _ _ s2 c3 (nb0 h1 hc0) (nb1 h1 h2 hc).2 cl3) (fun v1851 h1851 u1851 q1851 => ?_) (fun E1851 h1851 u1851 q1851 => ?_)
        · obtain ⟨ff1851, so1851, z1851⟩ := q1851
          cases z1851
          show zL zrx zi _ 9 39 [(0, _), (1, _), (2, _)] [] _ _ _
          refine zSvoid vr_9_39 rfl ?_
          obtain ⟨f1, f2, f3⟩ := ff1851
          refine ⟨rfl, ⟨by rw [f1, g1849.1, g1841.1], ?_, ?_, fun x k n1 n2 n3 => ?_, fun x => ?_⟩, so1851⟩
          · rw [f2 _ _ (by omega) (by omega), g1849.2.1, if_neg (by omega), g1841.2.1, if_pos ⟨rfl, rfl⟩]
          · rw [f2 _ _ (by omega) (by omega)]
            exact c3
          · rw [f2 _ _ (by omega) (by omega), g1849.2.1, if_neg (by omega), g1841.2.1, if_neg (by omega)]
          · rw [(f3 x).1, (f3 x).2, g1849.2.2.1, g1849.2.2.2]
            exact ⟨g1841.2.2.1 x, g1841.2.2.2 x⟩
        · obtain ⟨-, -, z⟩ := q1851
          cases z
      · obtain ⟨-, z⟩ := q1848
        cases z
    · cases e1835
      cases f1835
      have c1835 := ndc q1835
      refine zSvoid vr_9_10 rfl ?_
      exfalso
      have z0 : (0 : Int32).toInt = 0 := rfl
      have z24 : (24 : Int32).toInt = 24 := rfl
      first
        | (have y := c1831
           rw [i32_lt] at y
           omega)
        | (have y := c1835
           rw [i32_lt] at y
           omega)
theorem C_draft (n : Nat) (nb : Int32) (h : List zC) (u : Nat) {T : Nat → Int32} {L : Nat} {c : Int32} (h1 : 0 ≤ nb.toInt) (h2 : nb.toInt < 24) (hc : c.toInt ≤ 24) (d1 : Stc h) (t1 : gF h 183 1 = some (.int (Int32.ofNat L))) (t2 : L ≤ 60) (t3 : ∀ i, i < L → gF h 184 i = some (.int (T i))) (t4 : gF h 71 2 = some (.int c)) (hc0 : 0 ≤ c.toInt) (hnc : nb.toInt ≤ c.toInt) (hCl : ∀ k, k < c.toNatClampNeg → ∃ C : Nat, gF h (73 + 4 * k) 1 = some (.ref C) ∧ 239 ≤ C) : zL zrx zi n 100 0 [(0, .ref 16), (1, .int nb)] [] h u (fun o h2 _ => TDF T L nb c h h2 o) := by
  refine zLnew2 vr_100_0 rfl (fun k1854 u1854 g1854 => ?_)
  refine zSdup vr_100_3 rfl ?_
  have l00 : h.length < k1854.length := by
    rw [g1854.len]
    omega
  refine zScall vr_100_4 rfl rfl rfl (fun m1856 _ => C_cinit _ _ _ _ l00) (fun v1856 h1856 u1856 q1856 => ?_) (fun E1856 h1856 u1856 q1856 => ?_)
  · obtain ⟨z1856, ii1856⟩ := q1856
    cases z1856
    show zL zrx zi _ 100 7 [(0, _), (1, _)] [_] _ _ _
    have n24 := n24_of h1 h2
    have h0 := d1.1
    have l0 := g1854.len
    obtain ⟨i1, i2, ⟨ia, ib, ic, id, ie⟩, i4, i5⟩ := ii1856
    have old : ∀ x k, x < h.length → gF h1856 x k = gF h x k := fun x k hx => by
      rw [i2 x k (by omega) (by omega), g1854.ext.fld hx]
    have oldT : ∀ x, x < h.length → gT h1856 x = gT h x ∧ gN h1856 x = gN h x := fun x hx => by
      rw [(i5 x (by omega)).1, (i5 x (by omega)).2]
      exact g1854.ext.T hx
    have fq : ∀ k, k < 9 → ¬ (k = 4 ∨ k = 5 ∨ k = 7) → gF h1856 h.length k = some (.int 0) := fun k hk n => by
      rw [i2 h.length k (by omega) (by omega), g1854.fld]
      exact zDef4 k hk
    have cz : CZ h.length (h.length + 1) (h.length + 2) h1856 Fz := by
      refine ⟨fun k hk => ?_, ?_, ?_, fun k hk => ?_, fun k hk => ?_, by omega, by omega, by omega, by omega, by omega, by omega⟩
      · by_cases y5 : k = 5
        · subst y5
          exact id
        · by_cases y7 : k = 7
          · subst y7
            exact ie
          · have e : Fz k = 0 := by
              unfold Fz
              rw [if_neg y5, if_neg y7]
            rw [e]
            by_cases y4 : k = 4
            · subst y4
              exact ic
            · exact fq k hk (by omega)
      · rw [ia, l0]
      · rw [ib, l0]
      · rw [show h.length + 1 = k1854.length by omega, (i4 k hk).1]
        rcases two_k hk with z | z <;> subst z <;> rfl
      · rw [show h.length + 2 = k1854.length + 1 by omega, (i4 k hk).2]
        rcases two_k hk with z | z <;> subst z <;> rfl
    have d2 : Stc h1856 := ⟨by omega, fun e he => by rw [old _ _ (gF_lt (d1.2 e he))]; exact d1.2 e he⟩
    have l184 : 183 < h.length ∧ 184 < h.length ∧ 71 < h.length ∧ 73 + 4 * nb.toNatClampNeg < h.length := by omega
    have dz : DZ T L h.length (h.length + 1) (h.length + 2) h1856 Fz := ⟨d2, by rw [old _ _ l184.1]; exact t1, t2, fun i hi => by rw [old _ _ l184.2.1]; exact t3 i hi, cz⟩
    have d1 := d2
    refine zSastore (m := 1) (k := 2) vr_100_7 rfl rfl ?_
    show zL zrx zi _ 100 8 [(2, _), (0, _), (1, _)] [] _ _ _
    refine zSaload (m := 1) (k := 0) vr_100_8 rfl rfl rfl ?_
    refine zLget vr_100_9 rfl (fun p1859 w1859 e1859 t1859 g1859 => ?_)
    cases e1859
    first | (rw [(st_16_12 d1)] at g1859; cases g1859) | (rw [(st_16_12 d3)] at g1859; cases g1859) | (rw [(st_16_10 d4)] at g1859; cases g1859) | skip
    refine zSaload (m := 1) (k := 2) vr_100_12 rfl rfl rfl ?_
    refine zSiload (m := 1) (k := 1) vr_100_13 rfl rfl rfl (fun x1861 e1861 => ?_)
    cases e1861
    refine zScall vr_100_14 rfl rfl rfl (fun m1862 _ => C_read _ _ _ _ dz) (fun v1862 h1862 u1862 q1862 => ?_) (fun E1862 h1862 u1862 q1862 => ?_)
    · obtain ⟨fr1862, b1862, z1862, r1862⟩ := q1862
      cases z1862
      show zL zrx zi _ 100 17 [(2, _), (0, _), (1, _)] [_] _ _ _
      refine zSistore (m := 1) (k := 3) vr_100_17 rfl rfl (fun x1863 e1863 => ?_)
      cases e1863
      show zL zrx zi _ 100 18 [(3, _), (2, _), (0, _), (1, _)] [] _ _ _
      have d3 := fr1862.stc d1 (by omega) (by omega) (by omega)
      refine zSaload (m := 1) (k := 0) vr_100_18 rfl rfl rfl ?_
      refine zLget vr_100_19 rfl (fun p1865 w1865 e1865 t1865 g1865 => ?_)
      cases e1865
      first | (rw [(st_16_12 d1)] at g1865; cases g1865) | (rw [(st_16_12 d3)] at g1865; cases g1865) | (rw [(st_16_10 d4)] at g1865; cases g1865) | skip
      refine zSp0 (pc' := 23) (st' := .int (0) :: _) vr_100_22 rfl rfl ?_
      refine zLput vr_100_23 rfl (fun p1867 k1867 e1867 t1867 g1867 => ?_)
      cases e1867
      have d4 := d3.fld g1867 (by decide +kernel)
      have cc : gF k1867 71 2 = some (.int c) := by
        rw [g1867.2.1, if_neg (by omega), fr1862.2.1 _ _ (by omega) (by omega) (by omega) (by omega), old _ _ l184.2.2.1]
        exact t4
      have up : ∀ x k, x < h.length → ¬ (x = 183 ∧ (k = 1 ∨ k = 2)) → gF k1867 x k = gF h x k := fun x k hx n => by
        rw [g1867.2.1, if_neg (by omega), fr1862.2.1 x k (by omega) (by omega) (by omega) (by omega)]
        exact old x k hx
      have upT : ∀ x, x < h.length → gT k1867 x = gT h x ∧ gN k1867 x = gN h x := fun x hx => by
        rw [g1867.2.2.1, g1867.2.2.2, (fr1862.2.2 x).1, (fr1862.2.2 x).2]
        exact oldT x hx
      have lk : k1867.length = h.length + 3 := by
        rw [g1867.1, fr1862.1]
        omega
      have cl4 : ∀ k, k < c.toNatClampNeg → ∃ C : Nat, gF k1867 (73 + 4 * k) 1 = some (.ref C) ∧ 239 ≤ C := fun k hk => by
        obtain ⟨C', q1, q2⟩ := hCl k hk
        exact ⟨C', (up _ _ (gF_lt q1) (by omega)).trans q1, q2⟩
      refine zSiload (m := 1) (k := 3) vr_100_26 rfl rfl rfl (fun x1868 e1868 => ?_)
      cases e1868
      refine zSb1 (f := fun x => decide (x = 0)) (off := 12) (t := 39) vr_100_27 rfl rfl rfl (fun x1869 e1869 q1869 => ?_) (fun x1869 e1869 q1869 => ?_)
      · cases e1869
        have c1869 := of_decide_eq_true q1869
        refine zSiload (m := 1) (k := 3) vr_100_39 rfl rfl rfl (fun x1870 e1870 => ?_)
        cases e1870
        refine zLiret vr_100_40 rfl (fun x1871 e1871 => ?_)
        cases e1871
        first
          | (have e : pRead T L nb Fz = none := r1862.n c1869
             refine ⟨⟨lk, by rw [g1867.2.1, if_pos ⟨rfl, rfl⟩], fun x k hx n1 n2 n3 n4 => up x k hx n1, upT, _, rfl, Or.inl ⟨c1869, e, up _ _ (by omega) (by omega), up _ _ (by omega) (by omega)⟩⟩, fun b eb => Or.inl ⟨by cases eb; exact c1869, up⟩⟩)
          | (obtain ⟨y, e, d5⟩ := r1862.y c1869
             obtain ⟨p1, p2, p3, p4, p5⟩ := pt1851
             have b1 := rd1 r1862 c1869
             refine ⟨⟨by omega, ?_, fun x k hx n1 n2 n3 n4 => ?_, fun x hx => ?_, _, rfl, Or.inr ⟨b1, y.1, y.2, e, ?_, p2, p3⟩⟩, fun b eb => Or.inr ⟨by cases eb; exact b1, so1851⟩⟩
             · rw [p4 _ _ (by omega) (by omega) (by omega), g1867.2.1, if_pos ⟨rfl, rfl⟩]
             · rw [p4 _ _ n2 n3 n4]
               exact up x k hx n1
             · rw [(p5 x).1, (p5 x).2]
               exact upT x hx
             · exact d5.2.oth (fun x k hx => by rw [p4 _ _ (by omega) (by omega) (by omega), g1867.2.1, if_neg (by omega)]))
      · cases e1869
        have c1869 := ndc q1869
        refine zSaload (m := 1) (k := 0) vr_100_30 rfl rfl rfl ?_
        refine zLget vr_100_31 rfl (fun p1873 w1873 e1873 t1873 g1873 => ?_)
        cases e1873
        first | (rw [(st_16_12 d1)] at g1873; cases g1873) | (rw [(st_16_12 d3)] at g1873; cases g1873) | (rw [(st_16_10 d4)] at g1873; cases g1873) | skip
        refine zSiload (m := 1) (k := 1) vr_100_34 rfl rfl rfl (fun x1874 e1874 => ?_)
        cases e1874
        refine zSaload (m := 1) (k := 2) vr_100_35 rfl rfl rfl ?_
        refine zScall vr_100_36 rfl rfl rfl (fun m1876 _ => C_put _ _ _ _ _ h1 h2 hc d4 cc hc0 hnc h0 cl4) (fun v1876 h1876 u1876 q1876 => ?_) (fun E1876 h1876 u1876 q1876 => ?_)
        · obtain ⟨z1876, pt1876, so1876⟩ := q1876
          cases z1876
          show zL zrx zi _ 100 39 [(3, _), (2, _), (0, _), (1, _)] [] _ _ _
          refine zSiload (m := 1) (k := 3) vr_100_39 rfl rfl rfl (fun x1877 e1877 => ?_)
          cases e1877
          refine zLiret vr_100_40 rfl (fun x1878 e1878 => ?_)
          cases e1878
          first
            | (have e : pRead T L nb Fz = none := r1862.n c1869
               refine ⟨⟨lk, by rw [g1867.2.1, if_pos ⟨rfl, rfl⟩], fun x k hx n1 n2 n3 n4 => up x k hx n1, upT, _, rfl, Or.inl ⟨c1869, e, up _ _ (by omega) (by omega), up _ _ (by omega) (by omega)⟩⟩, fun b eb => Or.inl ⟨by cases eb; exact c1869, up⟩⟩)
            | (obtain ⟨y, e, d5⟩ := r1862.y c1869
               obtain ⟨p1, p2, p3, p4, p5⟩ := pt1876
               have b1 := rd1 r1862 c1869
               refine ⟨⟨by omega, ?_, fun x k hx n1 n2 n3 n4 => ?_, fun x hx => ?_, _, rfl, Or.inr ⟨b1, y.1, y.2, e, ?_, p2, p3⟩⟩, fun b eb => Or.inr ⟨by cases eb; exact b1, so1876⟩⟩
               · rw [p4 _ _ (by omega) (by omega) (by omega), g1867.2.1, if_pos ⟨rfl, rfl⟩]
               · rw [p4 _ _ n2 n3 n4]
                 exact up x k hx n1
               · rw [(p5 x).1, (p5 x).2]
                 exact upT x hx
               · exact d5.2.oth (fun x k hx => by rw [p4 _ _ (by omega) (by omega) (by omega), g1867.2.1, if_neg (by omega)]))
        · obtain ⟨z, -, -⟩ := q1876
          cases z
    · obtain ⟨-, _, z, -⟩ := q1862
      cases z
  · obtain ⟨z, -⟩ := q1856
    cases z

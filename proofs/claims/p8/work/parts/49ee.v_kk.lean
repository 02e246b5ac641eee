/-! ===== values: the cluster, 3 ===== -/
theorem vr_2_0 : zrx 2 0 = some (.aload_n 0, 0, 0) := by decide +kernel
theorem vr_2_1 : zrx 2 1 = some (.invokespecial 3, 0, 6) := by decide +kernel
theorem vr_2_4 : zrx 2 4 = some (.aload_n 0, 0, 0) := by decide +kernel
theorem vr_2_5 : zrx 2 5 = some (.iconst 0, 0, 0) := by decide +kernel
theorem vr_2_6 : zrx 2 6 = some (.putfield 9, 4, 4) := by decide +kernel
theorem vr_2_9 : zrx 2 9 = some (.aload_n 0, 0, 0) := by decide +kernel
theorem vr_2_10 : zrx 2 10 = some (.sipush 999, 0, 0) := by decide +kernel
theorem vr_2_13 : zrx 2 13 = some (.putfield 15, 4, 5) := by decide +kernel
theorem vr_2_16 : zrx 2 16 = some (.aload_n 0, 0, 0) := by decide +kernel
theorem vr_2_17 : zrx 2 17 = some (.iconst (-1), 0, 0) := by decide +kernel
theorem vr_2_18 : zrx 2 18 = some (.putfield 18, 4, 7) := by decide +kernel
theorem vr_2_21 : zrx 2 21 = some (.aload_n 0, 0, 0) := by decide +kernel
theorem vr_2_22 : zrx 2 22 = some (.iconst 2, 0, 0) := by decide +kernel
theorem vr_2_23 : zrx 2 23 = some (.newarray .int, 100, 0) := by decide +kernel
theorem vr_2_25 : zrx 2 25 = some (.putfield 21, 4, 9) := by decide +kernel
theorem vr_2_28 : zrx 2 28 = some (.aload_n 0, 0, 0) := by decide +kernel
theorem vr_2_29 : zrx 2 29 = some (.iconst 2, 0, 0) := by decide +kernel
theorem vr_2_30 : zrx 2 30 = some (.newarray .int, 100, 0) := by decide +kernel
theorem vr_2_32 : zrx 2 32 = some (.putfield 25, 4, 10) := by decide +kernel
theorem vr_2_35 : zrx 2 35 = some (.return_, 0, 0) := by decide +kernel
theorem vr_9_0 : zrx 9 0 = some (.iload_n 1, 0, 0) := by decide +kernel
theorem vr_9_1 : zrx 9 1 = some (.ifCond .lt 9, 0, 0) := by decide +kernel
theorem vr_9_4 : zrx 9 4 = some (.iload_n 1, 0, 0) := by decide +kernel
theorem vr_9_5 : zrx 9 5 = some (.bipush 24, 0, 0) := by decide +kernel
theorem vr_9_7 : zrx 9 7 = some (.if_icmp .lt 4, 0, 0) := by decide +kernel
theorem vr_9_10 : zrx 9 10 = some (.return_, 0, 0) := by decide +kernel
theorem vr_9_11 : zrx 9 11 = some (.aload_n 0, 0, 0) := by decide +kernel
theorem vr_9_12 : zrx 9 12 = some (.getfield 11, 5, 0) := by decide +kernel
theorem vr_9_15 : zrx 9 15 = some (.iload_n 1, 0, 0) := by decide +kernel
theorem vr_9_16 : zrx 9 16 = some (.aaload, 0, 0) := by decide +kernel
theorem vr_9_17 : zrx 9 17 = some (.aload_n 2, 0, 0) := by decide +kernel
theorem vr_9_18 : zrx 9 18 = some (.putfield 24, 3, 1) := by decide +kernel
theorem vr_9_21 : zrx 9 21 = some (.aload_n 0, 0, 0) := by decide +kernel
theorem vr_9_22 : zrx 9 22 = some (.aload_n 0, 0, 0) := by decide +kernel
theorem vr_9_23 : zrx 9 23 = some (.getfield 28, 5, 2) := by decide +kernel
theorem vr_9_26 : zrx 9 26 = some (.iload_n 1, 0, 0) := by decide +kernel
theorem vr_9_27 : zrx 9 27 = some (.iconst 1, 0, 0) := by decide +kernel
theorem vr_9_28 : zrx 9 28 = some (.iadd, 0, 0) := by decide +kernel
theorem vr_9_29 : zrx 9 29 = some (.invokestatic 32, 261, 0) := by decide +kernel
theorem vr_9_32 : zrx 9 32 = some (.putfield 28, 5, 2) := by decide +kernel
theorem vr_9_35 : zrx 9 35 = some (.aload_n 0, 0, 0) := by decide +kernel
theorem vr_9_36 : zrx 9 36 = some (.invokevirtual 38, 10, 60) := by decide +kernel
theorem vr_9_39 : zrx 9 39 = some (.return_, 0, 0) := by decide +kernel
theorem vr_10_0 : zrx 10 0 = some (.aload_n 0, 0, 0) := by decide +kernel
theorem vr_10_1 : zrx 10 1 = some (.iconst 0, 0, 0) := by decide +kernel
theorem vr_10_2 : zrx 10 2 = some (.putfield 41, 5, 3) := by decide +kernel
theorem vr_10_5 : zrx 10 5 = some (.aload_n 0, 0, 0) := by decide +kernel
theorem vr_10_6 : zrx 10 6 = some (.iconst 0, 0, 0) := by decide +kernel
theorem vr_10_7 : zrx 10 7 = some (.putfield 44, 5, 4) := by decide +kernel
theorem vr_10_10 : zrx 10 10 = some (.iconst 0, 0, 0) := by decide +kernel
theorem vr_10_11 : zrx 10 11 = some (.istore_n 1, 0, 0) := by decide +kernel
theorem vr_10_12 : zrx 10 12 = some (.iload_n 1, 0, 0) := by decide +kernel
theorem vr_10_13 : zrx 10 13 = some (.aload_n 0, 0, 0) := by decide +kernel
theorem vr_10_14 : zrx 10 14 = some (.getfield 28, 5, 2) := by decide +kernel
theorem vr_10_17 : zrx 10 17 = some (.if_icmp .ge 19, 0, 0) := by decide +kernel
theorem vr_10_20 : zrx 10 20 = some (.aload_n 0, 0, 0) := by decide +kernel
theorem vr_10_21 : zrx 10 21 = some (.getfield 11, 5, 0) := by decide +kernel
theorem vr_10_24 : zrx 10 24 = some (.iload_n 1, 0, 0) := by decide +kernel
theorem vr_10_25 : zrx 10 25 = some (.aaload, 0, 0) := by decide +kernel
theorem vr_10_26 : zrx 10 26 = some (.iconst 0, 0, 0) := by decide +kernel
theorem vr_10_27 : zrx 10 27 = some (.putfield 47, 3, 5) := by decide +kernel
theorem vr_10_30 : zrx 10 30 = some (.iinc 1 1, 0, 0) := by decide +kernel
theorem vr_10_33 : zrx 10 33 = some (.goto (-21), 0, 0) := by decide +kernel
theorem vr_10_36 : zrx 10 36 = some (.iconst 0, 0, 0) := by decide +kernel
theorem vr_10_37 : zrx 10 37 = some (.istore_n 1, 0, 0) := by decide +kernel
theorem vr_10_38 : zrx 10 38 = some (.iload_n 1, 0, 0) := by decide +kernel
theorem vr_10_39 : zrx 10 39 = some (.aload_n 0, 0, 0) := by decide +kernel
theorem vr_10_40 : zrx 10 40 = some (.getfield 28, 5, 2) := by decide +kernel
theorem vr_10_43 : zrx 10 43 = some (.if_icmp .ge 88, 0, 0) := by decide +kernel
theorem vr_10_46 : zrx 10 46 = some (.aload_n 0, 0, 0) := by decide +kernel
theorem vr_10_47 : zrx 10 47 = some (.getfield 11, 5, 0) := by decide +kernel
theorem vr_10_50 : zrx 10 50 = some (.iload_n 1, 0, 0) := by decide +kernel
theorem vr_10_51 : zrx 10 51 = some (.aaload, 0, 0) := by decide +kernel
theorem vr_10_52 : zrx 10 52 = some (.getfield 24, 3, 1) := by decide +kernel
theorem vr_10_55 : zrx 10 55 = some (.astore_n 2, 0, 0) := by decide +kernel
theorem vr_10_56 : zrx 10 56 = some (.aload_n 2, 0, 0) := by decide +kernel
theorem vr_10_57 : zrx 10 57 = some (.getfield 50, 4, 7) := by decide +kernel
theorem vr_10_60 : zrx 10 60 = some (.istore_n 3, 0, 0) := by decide +kernel
theorem vr_10_61 : zrx 10 61 = some (.iload_n 3, 0, 0) := by decide +kernel
theorem vr_10_62 : zrx 10 62 = some (.ifCond .lt 11, 0, 0) := by decide +kernel
theorem vr_10_65 : zrx 10 65 = some (.iload_n 3, 0, 0) := by decide +kernel
theorem vr_10_66 : zrx 10 66 = some (.aload_n 0, 0, 0) := by decide +kernel
theorem vr_10_67 : zrx 10 67 = some (.getfield 28, 5, 2) := by decide +kernel
theorem vr_10_70 : zrx 10 70 = some (.if_icmp .lt 18, 0, 0) := by decide +kernel
theorem vr_10_73 : zrx 10 73 = some (.aload_n 0, 0, 0) := by decide +kernel
theorem vr_10_74 : zrx 10 74 = some (.dup, 0, 0) := by decide +kernel
theorem vr_10_75 : zrx 10 75 = some (.getfield 41, 5, 3) := by decide +kernel
theorem vr_10_78 : zrx 10 78 = some (.iconst 1, 0, 0) := by decide +kernel
theorem vr_10_79 : zrx 10 79 = some (.iload_n 1, 0, 0) := by decide +kernel
theorem vr_10_80 : zrx 10 80 = some (.ishl, 0, 0) := by decide +kernel
theorem vr_10_81 : zrx 10 81 = some (.ior, 0, 0) := by decide +kernel
theorem vr_10_82 : zrx 10 82 = some (.putfield 41, 5, 3) := by decide +kernel
theorem vr_10_85 : zrx 10 85 = some (.goto 20, 0, 0) := by decide +kernel
theorem vr_10_88 : zrx 10 88 = some (.aload_n 0, 0, 0) := by decide +kernel
theorem vr_10_89 : zrx 10 89 = some (.getfield 11, 5, 0) := by decide +kernel
theorem vr_10_92 : zrx 10 92 = some (.iload_n 3, 0, 0) := by decide +kernel
theorem vr_10_93 : zrx 10 93 = some (.aaload, 0, 0) := by decide +kernel
theorem vr_10_94 : zrx 10 94 = some (.dup, 0, 0) := by decide +kernel
theorem vr_10_95 : zrx 10 95 = some (.getfield 47, 3, 5) := by decide +kernel
theorem vr_10_98 : zrx 10 98 = some (.iconst 1, 0, 0) := by decide +kernel
theorem vr_10_99 : zrx 10 99 = some (.iload_n 1, 0, 0) := by decide +kernel
theorem vr_10_100 : zrx 10 100 = some (.ishl, 0, 0) := by decide +kernel
theorem vr_10_101 : zrx 10 101 = some (.ior, 0, 0) := by decide +kernel
theorem vr_10_102 : zrx 10 102 = some (.putfield 47, 3, 5) := by decide +kernel
theorem vr_10_105 : zrx 10 105 = some (.aload_n 2, 0, 0) := by decide +kernel
theorem vr_10_106 : zrx 10 106 = some (.getfield 55, 4, 6) := by decide +kernel
theorem vr_10_109 : zrx 10 109 = some (.iconst (-1), 0, 0) := by decide +kernel
theorem vr_10_110 : zrx 10 110 = some (.if_icmp .ne 15, 0, 0) := by decide +kernel
theorem vr_10_113 : zrx 10 113 = some (.aload_n 0, 0, 0) := by decide +kernel
theorem vr_10_114 : zrx 10 114 = some (.dup, 0, 0) := by decide +kernel
theorem vr_10_115 : zrx 10 115 = some (.getfield 44, 5, 4) := by decide +kernel
theorem vr_10_118 : zrx 10 118 = some (.iconst 1, 0, 0) := by decide +kernel
theorem vr_10_119 : zrx 10 119 = some (.iload_n 1, 0, 0) := by decide +kernel
theorem vr_10_120 : zrx 10 120 = some (.ishl, 0, 0) := by decide +kernel
theorem vr_10_121 : zrx 10 121 = some (.ior, 0, 0) := by decide +kernel
theorem vr_10_122 : zrx 10 122 = some (.putfield 44, 5, 4) := by decide +kernel
theorem vr_10_125 : zrx 10 125 = some (.iinc 1 1, 0, 0) := by decide +kernel
theorem vr_10_128 : zrx 10 128 = some (.goto (-90), 0, 0) := by decide +kernel
theorem vr_10_131 : zrx 10 131 = some (.return_, 0, 0) := by decide +kernel
theorem vr_100_0 : zrx 100 0 = some (.new 260, 4, 0) := by decide +kernel
theorem vr_100_3 : zrx 100 3 = some (.dup, 0, 0) := by decide +kernel
theorem vr_100_4 : zrx 100 4 = some (.invokespecial 423, 2, 51) := by decide +kernel
theorem vr_100_7 : zrx 100 7 = some (.astore_n 2, 0, 0) := by decide +kernel
theorem vr_100_8 : zrx 100 8 = some (.aload_n 0, 0, 0) := by decide +kernel
theorem vr_100_9 : zrx 100 9 = some (.getfield 56, 13, 12) := by decide +kernel
theorem vr_100_12 : zrx 100 12 = some (.aload_n 2, 0, 0) := by decide +kernel
theorem vr_100_13 : zrx 100 13 = some (.iload_n 1, 0, 0) := by decide +kernel
theorem vr_100_14 : zrx 100 14 = some (.invokevirtual 424, 26, 90) := by decide +kernel
theorem vr_100_17 : zrx 100 17 = some (.istore_n 3, 0, 0) := by decide +kernel
theorem vr_100_18 : zrx 100 18 = some (.aload_n 0, 0, 0) := by decide +kernel
theorem vr_100_19 : zrx 100 19 = some (.getfield 56, 13, 12) := by decide +kernel
theorem vr_100_22 : zrx 100 22 = some (.iconst 0, 0, 0) := by decide +kernel
theorem vr_100_23 : zrx 100 23 = some (.putfield 159, 8, 1) := by decide +kernel
theorem vr_100_26 : zrx 100 26 = some (.iload_n 3, 0, 0) := by decide +kernel
theorem vr_100_27 : zrx 100 27 = some (.ifCond .eq 12, 0, 0) := by decide +kernel
theorem vr_100_30 : zrx 100 30 = some (.aload_n 0, 0, 0) := by decide +kernel
theorem vr_100_31 : zrx 100 31 = some (.getfield 42, 13, 10) := by decide +kernel
theorem vr_100_34 : zrx 100 34 = some (.iload_n 1, 0, 0) := by decide +kernel
theorem vr_100_35 : zrx 100 35 = some (.aload_n 2, 0, 0) := by decide +kernel
theorem vr_100_36 : zrx 100 36 = some (.invokevirtual 428, 9, 60) := by decide +kernel
theorem vr_100_39 : zrx 100 39 = some (.iload_n 3, 0, 0) := by decide +kernel
theorem vr_100_40 : zrx 100 40 = some (.ireturn, 0, 0) := by decide +kernel
theorem vr_119_0 : zrx 119 0 = some (.aload_n 0, 0, 0) := by decide +kernel
theorem vr_119_1 : zrx 119 1 = some (.invokespecial 3, 0, 6) := by decide +kernel
theorem vr_119_4 : zrx 119 4 = some (.aload_n 0, 0, 0) := by decide +kernel
theorem vr_119_5 : zrx 119 5 = some (.iconst 2, 0, 0) := by decide +kernel
theorem vr_119_6 : zrx 119 6 = some (.newarray .int, 100, 0) := by decide +kernel
theorem vr_119_8 : zrx 119 8 = some (.putfield 9, 15, 4) := by decide +kernel
theorem vr_119_11 : zrx 119 11 = some (.aload_n 0, 0, 0) := by decide +kernel
theorem vr_119_12 : zrx 119 12 = some (.iconst 2, 0, 0) := by decide +kernel
theorem vr_119_13 : zrx 119 13 = some (.newarray .int, 100, 0) := by decide +kernel
theorem vr_119_15 : zrx 119 15 = some (.putfield 15, 15, 5) := by decide +kernel
theorem vr_119_18 : zrx 119 18 = some (.aload_n 0, 0, 0) := by decide +kernel
theorem vr_119_19 : zrx 119 19 = some (.iconst (-1), 0, 0) := by decide +kernel
theorem vr_119_20 : zrx 119 20 = some (.putfield 18, 15, 8) := by decide +kernel
theorem vr_119_23 : zrx 119 23 = some (.aload_n 0, 0, 0) := by decide +kernel
theorem vr_119_24 : zrx 119 24 = some (.iconst (-1), 0, 0) := by decide +kernel
theorem vr_119_25 : zrx 119 25 = some (.putfield 22, 15, 10) := by decide +kernel
theorem vr_119_28 : zrx 119 28 = some (.aload_n 0, 0, 0) := by decide +kernel
theorem vr_119_29 : zrx 119 29 = some (.iconst (-1), 0, 0) := by decide +kernel
theorem vr_119_30 : zrx 119 30 = some (.putfield 25, 15, 11) := by decide +kernel
theorem vr_119_33 : zrx 119 33 = some (.return_, 0, 0) := by decide +kernel
theorem vr_148_0 : zrx 148 0 = some (.new 108, 15, 0) := by decide +kernel
theorem vr_148_3 : zrx 148 3 = some (.dup, 0, 0) := by decide +kernel
theorem vr_148_4 : zrx 148 4 = some (.invokespecial 175, 119, 161) := by decide +kernel
theorem vr_148_7 : zrx 148 7 = some (.astore_n 2, 0, 0) := by decide +kernel
theorem vr_148_8 : zrx 148 8 = some (.aload_n 0, 0, 0) := by decide +kernel
theorem vr_148_9 : zrx 148 9 = some (.iconst 0, 0, 0) := by decide +kernel
theorem vr_148_10 : zrx 148 10 = some (.putfield 148, 18, 16) := by decide +kernel
theorem C_ainit (n : Nat) (q : Nat) (h : List zC) (u : Nat) (hq : q < h.length) : zL zrx zi n 119 0 [(0, .ref q)] [] h u (fun o h2 _ => o = .inl none ∧ h2.length = h.length + 2 ∧ (∀ x k, x < h.length → ¬ (x = q ∧ (k = 4 ∨ k = 5 ∨ k = 8 ∨ k = 10 ∨ k = 11)) → gF h2 x k = gF h x k) ∧ (gF h2 q 4 = some (.ref h.length) ∧ gF h2 q 5 = some (.ref (h.length + 1)) ∧ gF h2 q 8 = some (.int (-1)) ∧ gF h2 q 10 = some (.int (-1)) ∧ gF h2 q 11 = some (.int (-1))) ∧ (∀ k, k < 2 → gF h2 h.length k = some (.int 0) ∧ gF h2 (h.length + 1) k = some (.int 0)) ∧ ∀ x, x < h.length → gT h2 x = gT h x ∧ gN h2 x = gN h x) := by
  refine zSaload (m := 1) (k := 0) vr_119_0 rfl rfl rfl ?_
  refine zSobj vr_119_1 rfl ?_
  refine zSaload (m := 1) (k := 0) vr_119_4 rfl rfl rfl ?_
  refine zSp0 (pc' := 6) (st' := .int (2) :: _) vr_119_5 rfl rfl ?_
  refine zLnarr vr_119_6 rfl (fun m1553 k1553 u1553 e1553 n1553 g1553 => ?_)
  cases e1553
  refine zLput vr_119_8 rfl (fun p1554 k1554 e1554 t1554 g1554 => ?_)
  cases e1554
  refine zSaload (m := 1) (k := 0) vr_119_11 rfl rfl rfl ?_
  refine zSp0 (pc' := 13) (st' := .int (2) :: _) vr_119_12 rfl rfl ?_
  refine zLnarr vr_119_13 rfl (fun m1557 k1557 u1557 e1557 n1557 g1557 => ?_)
  cases e1557
  refine zLput vr_119_15 rfl (fun p1558 k1558 e1558 t1558 g1558 => ?_)
  cases e1558
  refine zSaload (m := 1) (k := 0) vr_119_18 rfl rfl rfl ?_
  refine zSp0 (pc' := 20) (st' := .int (-1) :: _) vr_119_19 rfl rfl ?_
  refine zLput vr_119_20 rfl (fun p1561 k1561 e1561 t1561 g1561 => ?_)
  cases e1561
  refine zSaload (m := 1) (k := 0) vr_119_23 rfl rfl rfl ?_
  refine zSp0 (pc' := 25) (st' := .int (-1) :: _) vr_119_24 rfl rfl ?_
  refine zLput vr_119_25 rfl (fun p1564 k1564 e1564 t1564 g1564 => ?_)
  cases e1564
  refine zSaload (m := 1) (k := 0) vr_119_28 rfl rfl rfl ?_
  refine zSp0 (pc' := 30) (st' := .int (-1) :: _) vr_119_29 rfl rfl ?_
  refine zLput vr_119_30 rfl (fun p1567 k1567 e1567 t1567 g1567 => ?_)
  cases e1567
  refine zSvoid vr_119_33 rfl ?_
  have l1553 := g1553.len
  have l1554 := g1554.1
  have l1557 := g1557.len
  have l1558 := g1558.1
  have l1561 := g1561.1
  have l1564 := g1564.1
  have l1567 := g1567.1
  have e0 : h.length = h.length := by omega
  have e1 : h.length + 1 = k1554.length := by omega
  refine ⟨rfl, by omega, fun x k hx n => ?_, ⟨?_, ?_, ?_, ?_, ?_⟩, fun k hk => ?_, fun x hx => ⟨?_, ?_⟩⟩
  · rw [g1567.2.1, if_neg (by omega)]
    rw [g1564.2.1, if_neg (by omega)]
    rw [g1561.2.1, if_neg (by omega)]
    rw [g1558.2.1, if_neg (by omega)]
    rw [g1557.ext.fld (by omega)]
    rw [g1554.2.1, if_neg (by omega)]
    rw [g1553.ext.fld (by omega)]
  · first
      | exact (g1567.2.1 _ _).trans (if_pos ⟨rfl, rfl⟩)
      | (rw [g1567.2.1, if_neg (by omega)]
         first
           | exact (g1564.2.1 _ _).trans (if_pos ⟨rfl, rfl⟩)
           | (rw [g1564.2.1, if_neg (by omega)]
              first
                | exact (g1561.2.1 _ _).trans (if_pos ⟨rfl, rfl⟩)
                | (rw [g1561.2.1, if_neg (by omega)]
                   first
                     | exact (g1558.2.1 _ _).trans (if_pos ⟨rfl, rfl⟩)
                     | (rw [g1558.2.1, if_neg (by omega)]
                        first
                          | (rw [g1557.fld]
                             rfl)
                          | (rw [g1557.ext.fld (by omega)]
                             first
                               | exact (g1554.2.1 _ _).trans (if_pos ⟨rfl, rfl⟩)
                               | (rw [g1554.2.1, if_neg (by omega)]
                                  first
                                    | (rw [g1553.fld]
                                       rfl)
                                    | (rw [g1553.ext.fld (by omega)]
                                       assumption)))))))
  · rw [e1]
    first
      | exact (g1567.2.1 _ _).trans (if_pos ⟨rfl, rfl⟩)
      | (rw [g1567.2.1, if_neg (by omega)]
         first
           | exact (g1564.2.1 _ _).trans (if_pos ⟨rfl, rfl⟩)
           | (rw [g1564.2.1, if_neg (by omega)]
              first
                | exact (g1561.2.1 _ _).trans (if_pos ⟨rfl, rfl⟩)
                | (rw [g1561.2.1, if_neg (by omega)]
                   first
                     | exact (g1558.2.1 _ _).trans (if_pos ⟨rfl, rfl⟩)
                     | (rw [g1558.2.1, if_neg (by omega)]
                        first
                          | (rw [g1557.fld]
                             rfl)
                          | (rw [g1557.ext.fld (by omega)]
                             first
                               | exact (g1554.2.1 _ _).trans (if_pos ⟨rfl, rfl⟩)
                               | (rw [g1554.2.1, if_neg (by omega)]
                                  first
                                    | (rw [g1553.fld]
                                       rfl)
                                    | (rw [g1553.ext.fld (by omega)]
                                       assumption)))))))
  · first
      | exact (g1567.2.1 _ _).trans (if_pos ⟨rfl, rfl⟩)
      | (rw [g1567.2.1, if_neg (by omega)]
         first
           | exact (g1564.2.1 _ _).trans (if_pos ⟨rfl, rfl⟩)
           | (rw [g1564.2.1, if_neg (by omega)]
              first
                | exact (g1561.2.1 _ _).trans (if_pos ⟨rfl, rfl⟩)
                | (rw [g1561.2.1, if_neg (by omega)]
                   first
                     | exact (g1558.2.1 _ _).trans (if_pos ⟨rfl, rfl⟩)
                     | (rw [g1558.2.1, if_neg (by omega)]
                        first
                          | (rw [g1557.fld]
                             rfl)
                          | (rw [g1557.ext.fld (by omega)]
                             first
                               | exact (g1554.2.1 _ _).trans (if_pos ⟨rfl, rfl⟩)
                               | (rw [g1554.2.1, if_neg (by omega)]
                                  first
                                    | (rw [g1553.fld]
                                       rfl)
                                    | (rw [g1553.ext.fld (by omega)]
                                       assumption)))))))
  · first
      | exact (g1567.2.1 _ _).trans (if_pos ⟨rfl, rfl⟩)
      | (rw [g1567.2.1, if_neg (by omega)]
         first
           | exact (g1564.2.1 _ _).trans (if_pos ⟨rfl, rfl⟩)
           | (rw [g1564.2.1, if_neg (by omega)]
              first
                | exact (g1561.2.1 _ _).trans (if_pos ⟨rfl, rfl⟩)
                | (rw [g1561.2.1, if_neg (by omega)]
                   first
                     | exact (g1558.2.1 _ _).trans (if_pos ⟨rfl, rfl⟩)
                     | (rw [g1558.2.1, if_neg (by omega)]
                        first
                          | (rw [g1557.fld]
                             rfl)
                          | (rw [g1557.ext.fld (by omega)]
                             first
                               | exact (g1554.2.1 _ _).trans (if_pos ⟨rfl, rfl⟩)
                               | (rw [g1554.2.1, if_neg (by omega)]
                                  first
                                    | (rw [g1553.fld]
                                       rfl)
                                    | (rw [g1553.ext.fld (by omega)]
                                       assumption)))))))
  · first
      | exact (g1567.2.1 _ _).trans (if_pos ⟨rfl, rfl⟩)
      | (rw [g1567.2.1, if_neg (by omega)]
         first
           | exact (g1564.2.1 _ _).trans (if_pos ⟨rfl, rfl⟩)
           | (rw [g1564.2.1, if_neg (by omega)]
              first
                | exact (g1561.2.1 _ _).trans (if_pos ⟨rfl, rfl⟩)
                | (rw [g1561.2.1, if_neg (by omega)]
                   first
                     | exact (g1558.2.1 _ _).trans (if_pos ⟨rfl, rfl⟩)
                     | (rw [g1558.2.1, if_neg (by omega)]
                        first
                          | (rw [g1557.fld]
                             rfl)
                          | (rw [g1557.ext.fld (by omega)]
                             first
                               | exact (g1554.2.1 _ _).trans (if_pos ⟨rfl, rfl⟩)
                               | (rw [g1554.2.1, if_neg (by omega)]
                                  first
                                    | (rw [g1553.fld]
                                       rfl)
                                    | (rw [g1553.ext.fld (by omega)]
                                       assumption)))))))
  · refine ⟨?_, ?_⟩
    · rcases two_k hk with z | z <;> subst z
      · first
          | exact (g1567.2.1 _ _).trans (if_pos ⟨rfl, rfl⟩)
          | (rw [g1567.2.1, if_neg (by omega)]
             first
               | exact (g1564.2.1 _ _).trans (if_pos ⟨rfl, rfl⟩)
               | (rw [g1564.2.1, if_neg (by omega)]
                  first
                    | exact (g1561.2.1 _ _).trans (if_pos ⟨rfl, rfl⟩)
                    | (rw [g1561.2.1, if_neg (by omega)]
                       first
                         | exact (g1558.2.1 _ _).trans (if_pos ⟨rfl, rfl⟩)
                         | (rw [g1558.2.1, if_neg (by omega)]
                            first
                              | (rw [g1557.fld]
                                 rfl)
                              | (rw [g1557.ext.fld (by omega)]
                                 first
                                   | exact (g1554.2.1 _ _).trans (if_pos ⟨rfl, rfl⟩)
                                   | (rw [g1554.2.1, if_neg (by omega)]
                                      first
                                        | (rw [g1553.fld]
                                           rfl)
                                        | (rw [g1553.ext.fld (by omega)]
                                           assumption)))))))
      · first
          | exact (g1567.2.1 _ _).trans (if_pos ⟨rfl, rfl⟩)
          | (rw [g1567.2.1, if_neg (by omega)]
             first
               | exact (g1564.2.1 _ _).trans (if_pos ⟨rfl, rfl⟩)
               | (rw [g1564.2.1, if_neg (by omega)]
                  first
                    | exact (g1561.2.1 _ _).trans (if_pos ⟨rfl, rfl⟩)
                    | (rw [g1561.2.1, if_neg (by omega)]
                       first
                         | exact (g1558.2.1 _ _).trans (if_pos ⟨rfl, rfl⟩)
                         | (rw [g1558.2.1, if_neg (by omega)]
                            first
                              | (rw [g1557.fld]
                                 rfl)
                              | (rw [g1557.ext.fld (by omega)]
                                 first
                                   | exact (g1554.2.1 _ _).trans (if_pos ⟨rfl, rfl⟩)
                                   | (rw [g1554.2.1, if_neg (by omega)]
                                      first
                                        | (rw [g1553.fld]
                                           rfl)
                                        | (rw [g1553.ext.fld (by omega)]
                                           assumption)))))))
    · rw [e1]
      rcases two_k hk with z | z <;> subst z
      · first
          | exact (g1567.2.1 _ _).trans (if_pos ⟨rfl, rfl⟩)
          | (rw [g1567.2.1, if_neg (by omega)]
             first
               | exact (g1564.2.1 _ _).trans (if_pos ⟨rfl, rfl⟩)
               | (rw [g1564.2.1, if_neg (by omega)]
                  first
                    | exact (g1561.2.1 _ _).trans (if_pos ⟨rfl, rfl⟩)
                    | (rw [g1561.2.1, if_neg (by omega)]
                       first
                         | exact (g1558.2.1 _ _).trans (if_pos ⟨rfl, rfl⟩)
                         | (rw [g1558.2.1, if_neg (by omega)]
                            first
                              | (rw [g1557.fld]
                                 rfl)
                              | (rw [g1557.ext.fld (by omega)]
                                 first
                                   | exact (g1554.2.1 _ _).trans (if_pos ⟨rfl, rfl⟩)
                                   | (rw [g1554.2.1, if_neg (by omega)]
                                      first
                                        | (rw [g1553.fld]
                                           rfl)
                                        | (rw [g1553.ext.fld (by omega)]
                                           assumption)))))))
      · first
          | exact (g1567.2.1 _ _).trans (if_pos ⟨rfl, rfl⟩)
          | (rw [g1567.2.1, if_neg (by omega)]
             first
               | exact (g1564.2.1 _ _).trans (if_pos ⟨rfl, rfl⟩)
               | (rw [g1564.2.1, if_neg (by omega)]
                  first
                    | exact (g1561.2.1 _ _).trans (if_pos ⟨rfl, rfl⟩)
                    | (rw [g1561.2.1, if_neg (by omega)]
                       first
                         | exact (g1558.2.1 _ _).trans (if_pos ⟨rfl, rfl⟩)
                         | (rw [g1558.2.1, if_neg (by omega)]
                            first
                              | (rw [g1557.fld]
                                 rfl)
                              | (rw [g1557.ext.fld (by omega)]
                                 first
                                   | exact (g1554.2.1 _ _).trans (if_pos ⟨rfl, rfl⟩)
                                   | (rw [g1554.2.1, if_neg (by omega)]
                                      first
                                        | (rw [g1553.fld]
                                           rfl)
                                        | (rw [g1553.ext.fld (by omega)]
                                           assumption)))))))
  · rw [g1567.2.2.1]
    rw [g1564.2.2.1]
    rw [g1561.2.2.1]
    rw [g1558.2.2.1]
    rw [(g1557.ext.T (by omega)).1]
    rw [g1554.2.2.1]
    rw [(g1553.ext.T (by omega)).1]
  · rw [g1567.2.2.2]
    rw [g1564.2.2.2]
    rw [g1561.2.2.2]
    rw [g1558.2.2.2]
    rw [(g1557.ext.T (by omega)).2]
    rw [g1554.2.2.2]
    rw [(g1553.ext.T (by omega)).2]
theorem C_cinit (n : Nat) (q : Nat) (h : List zC) (u : Nat) (hq : q < h.length) : zL zrx zi n 2 0 [(0, .ref q)] [] h u (fun o h2 _ => o = .inl none ∧ h2.length = h.length + 2 ∧ (∀ x k, x < h.length → ¬ (x = q ∧ (k = 9 ∨ k = 10 ∨ k = 4 ∨ k = 5 ∨ k = 7)) → gF h2 x k = gF h x k) ∧ (gF h2 q 9 = some (.ref h.length) ∧ gF h2 q 10 = some (.ref (h.length + 1)) ∧ gF h2 q 4 = some (.int (0)) ∧ gF h2 q 5 = some (.int (999)) ∧ gF h2 q 7 = some (.int (-1))) ∧ (∀ k, k < 2 → gF h2 h.length k = some (.int 0) ∧ gF h2 (h.length + 1) k = some (.int 0)) ∧ ∀ x, x < h.length → gT h2 x = gT h x ∧ gN h2 x = gN h x) := by
  refine zSaload (m := 1) (k := 0) vr_2_0 rfl rfl rfl ?_
  refine zSobj vr_2_1 rfl ?_
  refine zSaload (m := 1) (k := 0) vr_2_4 rfl rfl rfl ?_
  refine zSp0 (pc' := 6) (st' := .int (0) :: _) vr_2_5 rfl rfl ?_
  refine zLput vr_2_6 rfl (fun p1573 k1573 e1573 t1573 g1573 => ?_)
  cases e1573
  refine zSaload (m := 1) (k := 0) vr_2_9 rfl rfl rfl ?_
  refine zSp0 (pc' := 13) (st' := .int (999) :: _) vr_2_10 rfl rfl ?_
  refine zLput vr_2_13 rfl (fun p1576 k1576 e1576 t1576 g1576 => ?_)
  cases e1576
  refine zSaload (m := 1) (k := 0) vr_2_16 rfl rfl rfl ?_
  refine zSp0 (pc' := 18) (st' := .int (-1) :: _) vr_2_17 rfl rfl ?_
  refine zLput vr_2_18 rfl (fun p1579 k1579 e1579 t1579 g1579 => ?_)
  cases e1579
  refine zSaload (m := 1) (k := 0) vr_2_21 rfl rfl rfl ?_
  refine zSp0 (pc' := 23) (st' := .int (2) :: _) vr_2_22 rfl rfl ?_
  refine zLnarr vr_2_23 rfl (fun m1582 k1582 u1582 e1582 n1582 g1582 => ?_)
  cases e1582
  refine zLput vr_2_25 rfl (fun p1583 k1583 e1583 t1583 g1583 => ?_)
  cases e1583
  refine zSaload (m := 1) (k := 0) vr_2_28 rfl rfl rfl ?_
  refine zSp0 (pc' := 30) (st' := .int (2) :: _) vr_2_29 rfl rfl ?_
  refine zLnarr vr_2_30 rfl (fun m1586 k1586 u1586 e1586 n1586 g1586 => ?_)
  cases e1586
  refine zLput vr_2_32 rfl (fun p1587 k1587 e1587 t1587 g1587 => ?_)
  cases e1587
  refine zSvoid vr_2_35 rfl ?_
  have l1573 := g1573.1
  have l1576 := g1576.1
  have l1579 := g1579.1
  have l1582 := g1582.len
  have l1583 := g1583.1
  have l1586 := g1586.len
  have l1587 := g1587.1
  have e0 : h.length = k1579.length := by omega
  have e1 : h.length + 1 = k1583.length := by omega
  refine ⟨rfl, by omega, fun x k hx n => ?_, ⟨?_, ?_, ?_, ?_, ?_⟩, fun k hk => ?_, fun x hx => ⟨?_, ?_⟩⟩
  · rw [g1587.2.1, if_neg (by omega)]
    rw [g1586.ext.fld (by omega)]
    rw [g1583.2.1, if_neg (by omega)]
    rw [g1582.ext.fld (by omega)]
    rw [g1579.2.1, if_neg (by omega)]
    rw [g1576.2.1, if_neg (by omega)]
    rw [g1573.2.1, if_neg (by omega)]
  · rw [e0]
    first
      | exact (g1587.2.1 _ _).trans (if_pos ⟨rfl, rfl⟩)
      | (rw [g1587.2.1, if_neg (by omega)]
         first
           | (rw [g1586.fld]
              rfl)
           | (rw [g1586.ext.fld (by omega)]
              first
                | exact (g1583.2.1 _ _).trans (if_pos ⟨rfl, rfl⟩)
                | (rw [g1583.2.1, if_neg (by omega)]
                   first
                     | (rw [g1582.fld]
                        rfl)
                     | (rw [g1582.ext.fld (by omega)]
                        first
                          | exact (g1579.2.1 _ _).trans (if_pos ⟨rfl, rfl⟩)
                          | (rw [g1579.2.1, if_neg (by omega)]
                             first
                               | exact (g1576.2.1 _ _).trans (if_pos ⟨rfl, rfl⟩)
                               | (rw [g1576.2.1, if_neg (by omega)]
                                  first
                                    | exact (g1573.2.1 _ _).trans (if_pos ⟨rfl, rfl⟩)
                                    | (rw [g1573.2.1, if_neg (by omega)]
                                       assumption)))))))
  · rw [e1]
    first
      | exact (g1587.2.1 _ _).trans (if_pos ⟨rfl, rfl⟩)
      | (rw [g1587.2.1, if_neg (by omega)]
         first
           | (rw [g1586.fld]
              rfl)
           | (rw [g1586.ext.fld (by omega)]
              first
                | exact (g1583.2.1 _ _).trans (if_pos ⟨rfl, rfl⟩)
                | (rw [g1583.2.1, if_neg (by omega)]
                   first
                     | (rw [g1582.fld]
                        rfl)
                     | (rw [g1582.ext.fld (by omega)]
                        first
                          | exact (g1579.2.1 _ _).trans (if_pos ⟨rfl, rfl⟩)
                          | (rw [g1579.2.1, if_neg (by omega)]
                             first
                               | exact (g1576.2.1 _ _).trans (if_pos ⟨rfl, rfl⟩)
                               | (rw [g1576.2.1, if_neg (by omega)]
                                  first
                                    | exact (g1573.2.1 _ _).trans (if_pos ⟨rfl, rfl⟩)
                                    | (rw [g1573.2.1, if_neg (by omega)]
                                       assumption)))))))
  · first
      | exact (g1587.2.1 _ _).trans (if_pos ⟨rfl, rfl⟩)
      | (rw [g1587.2.1, if_neg (by omega)]
         first
           | (rw [g1586.fld]
              rfl)
           | (rw [g1586.ext.fld (by omega)]
              first
                | exact (g1583.2.1 _ _).trans (if_pos ⟨rfl, rfl⟩)
                | (rw [g1583.2.1, if_neg (by omega)]
                   first
                     | (rw [g1582.fld]
                        rfl)
                     | (rw [g1582.ext.fld (by omega)]
                        first
                          | exact (g1579.2.1 _ _).trans (if_pos ⟨rfl, rfl⟩)
                          | (rw [g1579.2.1, if_neg (by omega)]
                             first
                               | exact (g1576.2.1 _ _).trans (if_pos ⟨rfl, rfl⟩)
                               | (rw [g1576.2.1, if_neg (by omega)]
                                  first
                                    | exact (g1573.2.1 _ _).trans (if_pos ⟨rfl, rfl⟩)
                                    | (rw [g1573.2.1, if_neg (by omega)]
                                       assumption)))))))
  · first
      | exact (g1587.2.1 _ _).trans (if_pos ⟨rfl, rfl⟩)
      | (rw [g1587.2.1, if_neg (by omega)]
         first
           | (rw [g1586.fld]
              rfl)
           | (rw [g1586.ext.fld (by omega)]
              first
                | exact (g1583.2.1 _ _).trans (if_pos ⟨rfl, rfl⟩)
                | (rw [g1583.2.1, if_neg (by omega)]
                   first
                     | (rw [g1582.fld]
                        rfl)
                     | (rw [g1582.ext.fld (by omega)]
                        first
                          | exact (g1579.2.1 _ _).trans (if_pos ⟨rfl, rfl⟩)
                          | (rw [g1579.2.1, if_neg (by omega)]
                             first
                               | exact (g1576.2.1 _ _).trans (if_pos ⟨rfl, rfl⟩)
                               | (rw [g1576.2.1, if_neg (by omega)]
                                  first
                                    | exact (g1573.2.1 _ _).trans (if_pos ⟨rfl, rfl⟩)
                                    | (rw [g1573.2.1, if_neg (by omega)]
                                       assumption)))))))
  · first
      | exact (g1587.2.1 _ _).trans (if_pos ⟨rfl, rfl⟩)
      | (rw [g1587.2.1, if_neg (by omega)]
         first
           | (rw [g1586.fld]
              rfl)
           | (rw [g1586.ext.fld (by omega)]
              first
                | exact (g1583.2.1 _ _).trans (if_pos ⟨rfl, rfl⟩)
                | (rw [g1583.2.1, if_neg (by omega)]
                   first
                     | (rw [g1582.fld]
                        rfl)
                     | (rw [g1582.ext.fld (by omega)]
                        first
                          | exact (g1579.2.1 _ _).trans (if_pos ⟨rfl, rfl⟩)
                          | (rw [g1579.2.1, if_neg (by omega)]
                             first
                               | exact (g1576.2.1 _ _).trans (if_pos ⟨rfl, rfl⟩)
                               | (rw [g1576.2.1, if_neg (by omega)]
                                  first
                                    | exact (g1573.2.1 _ _).trans (if_pos ⟨rfl, rfl⟩)
                                    | (rw [g1573.2.1, if_neg (by omega)]
                                       assumption)))))))
  · refine ⟨?_, ?_⟩
    · rw [e0]
      rcases two_k hk with z | z <;> subst z
      · first
          | exact (g1587.2.1 _ _).trans (if_pos ⟨rfl, rfl⟩)
          | (rw [g1587.2.1, if_neg (by omega)]
             first
               | (rw [g1586.fld]
                  rfl)
               | (rw [g1586.ext.fld (by omega)]
                  first
                    | exact (g1583.2.1 _ _).trans (if_pos ⟨rfl, rfl⟩)
                    | (rw [g1583.2.1, if_neg (by omega)]
                       first
                         | (rw [g1582.fld]
                            rfl)
                         | (rw [g1582.ext.fld (by omega)]
                            first
                              | exact (g1579.2.1 _ _).trans (if_pos ⟨rfl, rfl⟩)
                              | (rw [g1579.2.1, if_neg (by omega)]
                                 first
                                   | exact (g1576.2.1 _ _).trans (if_pos ⟨rfl, rfl⟩)
                                   | (rw [g1576.2.1, if_neg (by omega)]
                                      first
                                        | exact (g1573.2.1 _ _).trans (if_pos ⟨rfl, rfl⟩)
                                        | (rw [g1573.2.1, if_neg (by omega)]
                                           assumption)))))))
      · first
          | exact (g1587.2.1 _ _).trans (if_pos ⟨rfl, rfl⟩)
          | (rw [g1587.2.1, if_neg (by omega)]
             first
               | (rw [g1586.fld]
                  rfl)
               | (rw [g1586.ext.fld (by omega)]
                  first
                    | exact (g1583.2.1 _ _).trans (if_pos ⟨rfl, rfl⟩)
                    | (rw [g1583.2.1, if_neg (by omega)]
                       first
                         | (rw [g1582.fld]
                            rfl)
                         | (rw [g1582.ext.fld (by omega)]
                            first
                              | exact (g1579.2.1 _ _).trans (if_pos ⟨rfl, rfl⟩)
                              | (rw [g1579.2.1, if_neg (by omega)]
                                 first
                                   | exact (g1576.2.1 _ _).trans (if_pos ⟨rfl, rfl⟩)
                                   | (rw [g1576.2.1, if_neg (by omega)]
                                      first
                                        | exact (g1573.2.1 _ _).trans (if_pos ⟨rfl, rfl⟩)
                                        | (rw [g1573.2.1, if_neg (by omega)]
                                           assumption)))))))
    · rw [e1]
      rcases two_k hk with z | z <;> subst z
      · first
          | exact (g1587.2.1 _ _).trans (if_pos ⟨rfl, rfl⟩)
          | (rw [g1587.2.1, if_neg (by omega)]
             first
               | (rw [g1586.fld]
                  rfl)
               | (rw [g1586.ext.fld (by omega)]
                  first
                    | exact (g1583.2.1 _ _).trans (if_pos ⟨rfl, rfl⟩)
                    | (rw [g1583.2.1, if_neg (by omega)]
                       first
                         | (rw [g1582.fld]
                            rfl)
                         | (rw [g1582.ext.fld (by omega)]
                            first
                              | exact (g1579.2.1 _ _).trans (if_pos ⟨rfl, rfl⟩)
                              | (rw [g1579.2.1, if_neg (by omega)]
                                 first
                                   | exact (g1576.2.1 _ _).trans (if_pos ⟨rfl, rfl⟩)
                                   | (rw [g1576.2.1, if_neg (by omega)]
                                      first
                                        | exact (g1573.2.1 _ _).trans (if_pos ⟨rfl, rfl⟩)
                                        | (rw [g1573.2.1, if_neg (by omega)]
                                           assumption)))))))
      · first
          | exact (g1587.2.1 _ _).trans (if_pos ⟨rfl, rfl⟩)
          | (rw [g1587.2.1, if_neg (by omega)]
             first
               | (rw [g1586.fld]
                  rfl)
               | (rw [g1586.ext.fld (by omega)]
                  first
                    | exact (g1583.2.1 _ _).trans (if_pos ⟨rfl, rfl⟩)
                    | (rw [g1583.2.1, if_neg (by omega)]
                       first
                         | (rw [g1582.fld]
                            rfl)
                         | (rw [g1582.ext.fld (by omega)]
                            first
                              | exact (g1579.2.1 _ _).trans (if_pos ⟨rfl, rfl⟩)
                              | (rw [g1579.2.1, if_neg (by omega)]
                                 first
                                   | exact (g1576.2.1 _ _).trans (if_pos ⟨rfl, rfl⟩)
                                   | (rw [g1576.2.1, if_neg (by omega)]
                                      first
                                        | exact (g1573.2.1 _ _).trans (if_pos ⟨rfl, rfl⟩)
                                        | (rw [g1573.2.1, if_neg (by omega)]
                                           assumption)))))))
  · rw [g1587.2.2.1]
    rw [(g1586.ext.T (by omega)).1]
    rw [g1583.2.2.1]
    rw [(g1582.ext.T (by omega)).1]
    rw [g1579.2.2.1]
    rw [g1576.2.2.1]
    rw [g1573.2.2.1]
  · rw [g1587.2.2.2]
    rw [(g1586.ext.T (by omega)).2]
    rw [g1583.2.2.2]
    rw [(g1582.ext.T (by omega)).2]
    rw [g1579.2.2.2]
    rw [g1576.2.2.2]
    rw [g1573.2.2.2]
theorem C_mread (n : Nat) (nb : Int32) (h : List zC) (u : Nat) {T : Nat → Int32} {L s b : Nat} {bd : Int32} (hS : Stc h) (sb : SB T L s b h) (q1 : gF h 213 10 = some (.ref s)) (q2 : gF h 213 17 = some (.int bd)) (q3 : bd = 0 ∨ bd = 1) : zL zrx zi n 148 0 [(0, .ref 213), (1, .int nb)] [] h u (fun o h2 _ => o = .inl (some (.ref h.length)) ∧ QRd T L s b nb h h2) := by
  refine zLnew2 vr_148_0 rfl (fun k1589 u1589 g1589 => ?_)
  refine zSdup vr_148_3 rfl ?_
  have l00 : h.length < k1589.length := by
    rw [g1589.len]
    omega
  refine zScall vr_148_4 rfl rfl rfl (fun m1591 _ => C_ainit _ _ _ _ l00) (fun v1591 h1591 u1591 q1591 => ?_) (fun E1591 h1591 u1591 q1591 => ?_)
  · obtain ⟨z1591, i1, i2, i3, i4, i5⟩ := q1591
    cases z1591
    show zL zrx zi _ 148 7 [(0, _), (1, _)] [_] _ _ _
    refine zSastore (m := 1) (k := 2) vr_148_7 rfl rfl ?_
    show zL zrx zi _ 148 8 [(2, _), (0, _), (1, _)] [] _ _ _
    refine zSaload (m := 1) (k := 0) vr_148_8 rfl rfl rfl ?_
    refine zSp0 (pc' := 10) (st' := .int (0) :: _) vr_148_9 rfl rfl ?_
    refine zLput vr_148_10 rfl (fun p1595 k1595 e1595 t1595 g1595 => ?_)
    cases e1595
    have h0 := hS.1
    have l0 := g1589.len
    have old : ∀ x k, x < h.length → gF h1591 x k = gF h x k := fun x k hx => by
      rw [i2 x k (by omega) (by omega), g1589.ext.fld hx]
    have oldT : ∀ x, x < h.length → gT h1591 x = gT h x ∧ gN h1591 x = gN h x := fun x hx => by
      rw [(i5 x (by omega)).1, (i5 x (by omega)).2]
      exact g1589.ext.T hx
    have d : MB T L s b k1595 0 bd := MB.start hS sb q1 q2 q3 (by omega) old (fun x hx => (oldT x hx).2) g1595
    have lp := g1595.1
    have ls := gF_lt sb.1
    have lb := gN_lt sb.2.2.1
    have hn : NE s b h.length (h.length + 1) (h.length + 2) := by
      unfold NE
      omega
    have fq : ∀ k, k < 12 → ¬ (k = 4 ∨ k = 5 ∨ k = 8 ∨ k = 10 ∨ k = 11) → gF k1595 h.length k = some (.int 0) := fun k hk n => by
      rw [g1595.2.1, if_neg (by omega), i2 h.length k (by omega) (fun z => n z.2), g1589.fld]
      exact zDef15 k hk (by omega)
    obtain ⟨j1, j2, j3, j4, j5⟩ := i3
    have up : ∀ x k, 239 ≤ x → gF k1595 x k = gF h1591 x k := fun x k hx => by
      rw [g1595.2.1, if_neg (by omega)]
    have az : AZ h.length (h.length + 1) (h.length + 2) k1595 Fz := by
      refine ⟨fun e he => ?_, ?_, ?_, fun k hk => ?_, fun k hk => ?_, Or.inl rfl, by omega, by omega, by omega, by omega, by omega, by omega⟩
      · simp only [aps, List.mem_cons, List.not_mem_nil, or_false] at he
        rcases he with rfl | rfl | rfl | rfl | rfl | rfl | rfl
        · exact fq 0 (by omega) (by omega)
        · exact fq 1 (by omega) (by omega)
        · exact fq 2 (by omega) (by omega)
        · exact fq 3 (by omega) (by omega)
        · exact fq 6 (by omega) (by omega)
        · exact fq 7 (by omega) (by omega)
        · exact (up _ _ h0).trans j3
      · rw [up _ _ h0, j1, l0]
      · rw [up _ _ h0, j2, l0]
      · rw [up _ _ (by omega), show h.length + 1 = k1589.length by omega, (i4 k hk).1]
        rcases two_k hk with z | z <;> subst z <;> rfl
      · rw [up _ _ (by omega), show h.length + 2 = k1589.length + 1 by omega, (i4 k hk).2]
        rcases two_k hk with z | z <;> subst z <;> rfl
    refine zL_K _ _ _ _ _ _ _ _ _ (zL_pm _ _ _ [(2, _), (0, _), (1, _)] _ _ _ _ _ ⟨(List.forall_mem_cons.mpr ⟨List.mem_cons_self, (List.forall_mem_cons.mpr ⟨(List.mem_cons_of_mem _ List.mem_cons_self), (List.forall_mem_cons.mpr ⟨(List.mem_cons_of_mem _ (List.mem_cons_of_mem _ List.mem_cons_self)), (fun _ h => absurd h List.not_mem_nil)⟩)⟩)⟩), show ([2, 0, 1] : List Nat).Nodup by decide⟩ (C_rd0 hn h0 d az _ _)) (fun o h2 u2 q => ?_)
    obtain ⟨⟨y1, y2, y3⟩, y4, y5⟩ := q
    refine ⟨y4, by omega, fun x k hx n => ?_, fun x hx => ?_, ⟨?_, ?_, ?_⟩, ?_, y5⟩
    · rw [y2 x k n (by omega) (by omega) (by omega), g1595.2.1, if_neg (by omega)]
      exact old x k hx
    · rw [(y3 x).1, (y3 x).2, g1595.2.2.1, g1595.2.2.2]
      exact oldT x hx
    · rw [y2 _ _ (by omega) (by omega) (by omega) (by omega)]
      exact fq 9 (by omega) (by omega)
    · rw [y2 _ _ (by omega) (by omega) (by omega) (by omega), up _ _ h0]
      exact j4
    · rw [y2 _ _ (by omega) (by omega) (by omega) (by omega), up _ _ h0]
      exact j5
    · rw [(y3 _).1, g1595.2.2.1, (i5 _ (by omega)).1, g1589.cn.2]
  · obtain ⟨z, -⟩ := q1591
    cases z
set_option maxRecDepth 20000 in
theorem C_so2 {c : Int32} (hc : c.toInt ≤ 24) : ∀ (n i : Nat) (w w2 : Value) (h : List zC) (u : Nat), i ≤ 24 → Stc h → gF h 71 2 = some (.int c) → zL zrx zi n 10 38 [(1, .int (Int32.ofNat i)), (0, .ref 71), (2, w), (3, w2)] [] h u (fun o h2 _ => FS h h2 ∧ o = .inl none)
  | 0, _, _, _, _, _ => fun _ _ _ => trivial
  | n + 1, i, w, w2, h, u => fun hi d1 d2 => by
    have ki := toNat_ofNat (m := i) (by omega)
    refine zLp vr_10_38 rfl rfl ?_
    refine zSaload (m := 1) (k := 0) vr_10_39 rfl rfl rfl ?_
    refine zLget vr_10_40 rfl (fun p1597 w1597 e1597 t1597 g1597 => ?_)
    cases e1597
    first | (rw [d2] at g1597; cases g1597) | (rw [(st_71_0 d1)] at g1597; cases g1597) | (rw [hI] at g1597; cases g1597) | (rw [hJ] at g1597; cases g1597) | skip
    refine zSb2 (f := fun x y => decide (y ≤ x)) (off := 88) (t := 131) vr_10_43 rfl rfl rfl (fun x1598 y1598 e1598 f1598 q1598 => ?_) (fun x1598 y1598 e1598 f1598 q1598 => ?_)
    · cases e1598
      cases f1598
      have c1598 := of_decide_eq_true q1598
      refine zSvoid vr_10_131 rfl ?_
      exact ⟨FS.refl _, rfl⟩
    · cases e1598
      cases f1598
      have c1598 := ndc q1598
      have i24 : i < 24 := by
        have y := c1598
        rw [i32_le, ki.2] at y
        omega
      have hI : gF h 72 (Int32.ofNat i).toNatClampNeg = some (.ref (73 + 4 * i)) := by
        rw [ki.1]
        exact st_art d1 i24
      refine zSaload (m := 1) (k := 0) vr_10_46 rfl rfl rfl ?_
      refine zLget vr_10_47 rfl (fun p1601 w1601 e1601 t1601 g1601 => ?_)
      cases e1601
      first | (rw [d2] at g1601; cases g1601) | (rw [(st_71_0 d1)] at g1601; cases g1601) | (rw [hI] at g1601; cases g1601) | (rw [hJ] at g1601; cases g1601) | skip
      refine zSiload (m := 1) (k := 1) vr_10_50 rfl rfl rfl (fun x1602 e1602 => ?_)
      cases e1602
      refine zLaald vr_10_51 rfl (fun p1603 x1603 w1603 e1603 f1603 c1603 t1603 g1603 => ?_)
      cases e1603
      cases f1603
      first | (rw [d2] at g1603; cases g1603) | (rw [(st_71_0 d1)] at g1603; cases g1603) | (rw [hI] at g1603; cases g1603) | (rw [hJ] at g1603; cases g1603) | skip
      refine zLget vr_10_52 rfl (fun p1604 w1604 e1604 t1604 g1604 => ?_)
      cases e1604
      first | (rw [d2] at g1604; cases g1604) | (rw [(st_71_0 d1)] at g1604; cases g1604) | (rw [hI] at g1604; cases g1604) | (rw [hJ] at g1604; cases g1604) | skip
      refine zSastore (m := 1) (k := 2) vr_10_55 rfl rfl ?_
      show zL zrx zi _ 10 56 [(2, _), (1, _), (0, _), (3, _)] [] _ _ _
      refine zSaload (m := 1) (k := 2) vr_10_56 rfl rfl rfl ?_
      refine zLget vr_10_57 rfl (fun p1607 w1607 e1607 t1607 g1607 => ?_)
      cases e1607
      first | (rw [d2] at g1607; cases g1607) | (rw [(st_71_0 d1)] at g1607; cases g1607) | (rw [hI] at g1607; cases g1607) | (rw [hJ] at g1607; cases g1607) | skip
      refine zSistore (m := 1) (k := 3) vr_10_60 rfl rfl (fun x1608 e1608 => ?_)
      cases e1608
      show zL zrx zi _ 10 61 [(3, _), (2, _), (1, _), (0, _)] [] _ _ _
      refine zSiload (m := 1) (k := 3) vr_10_61 rfl rfl rfl (fun x1609 e1609 => ?_)
      cases e1609
      refine zSb1 (f := fun x => decide (x < 0)) (off := 11) (t := 73) vr_10_62 rfl rfl rfl (fun x1610 e1610 q1610 => ?_) (fun x1610 e1610 q1610 => ?_)
      · cases e1610
        have c1610 := of_decide_eq_true q1610
        refine zSaload (m := 1) (k := 0) vr_10_73 rfl rfl rfl ?_
        refine zSdup vr_10_74 rfl ?_
        refine zLget vr_10_75 rfl (fun p1613 w1613 e1613 t1613 g1613 => ?_)
        cases e1613
        first | (rw [d2] at g1613; cases g1613) | (rw [(st_71_0 d1)] at g1613; cases g1613) | (rw [hI] at g1613; cases g1613) | (rw [hJ] at g1613; cases g1613) | skip
        refine zSp0 (pc' := 79) (st' := .int (1) :: _) vr_10_78 rfl rfl ?_
        refine zSiload (m := 1) (k := 1) vr_10_79 rfl rfl rfl (fun x1615 e1615 => ?_)
        cases e1615
        refine zS2 (f := fun x y => .int (x <<< (y &&& 31))) vr_10_80 rfl rfl (fun x1616 y1616 e1616 f1616 => ?_)
        cases e1616
        cases f1616
        refine zS2 (f := fun x y => .int (x ||| y)) vr_10_81 rfl rfl (fun x1617 y1617 e1617 f1617 => ?_)
        cases e1617
        cases f1617
        refine zLput vr_10_82 rfl (fun p1618 k1618 e1618 t1618 g1618 => ?_)
        cases e1618
        refine zSgo (t := 105) vr_10_85 rfl rfl ?_
        refine zSaload (m := 1) (k := 2) vr_10_105 rfl rfl rfl ?_
        refine zLget vr_10_106 rfl (fun p1621 w1621 e1621 t1621 g1621 => ?_)
        cases e1621
        first | (rw [d2] at g1621; cases g1621) | (rw [(st_71_0 d1)] at g1621; cases g1621) | (rw [hI] at g1621; cases g1621) | (rw [hJ] at g1621; cases g1621) | skip
        refine zSp0 (pc' := 110) (st' := .int (-1) :: _) vr_10_109 rfl rfl ?_
        refine zSb2 (f := fun x y => decide (¬ x = y)) (off := 15) (t := 125) vr_10_110 rfl rfl rfl (fun x1623 y1623 e1623 f1623 q1623 => ?_) (fun x1623 y1623 e1623 f1623 q1623 => ?_)
        · cases e1623
          cases f1623
          have c1623 := of_decide_eq_true q1623
          refine zSiinc vr_10_125 rfl rfl (fun x1624 e1624 => ?_)
          cases e1624
          show zL zrx zi _ 10 128 [(1, _), (3, _), (2, _), (0, _)] [] _ _ _
          refine zSgo (t := 38) vr_10_128 rfl rfl ?_
          first
            | (have ff := (FS.put g1618 (Or.inl ⟨rfl, Or.inl rfl⟩)).trans (FS.put g1487 (Or.inl ⟨rfl, Or.inr rfl⟩))
               rw [ofNat_succ]
               refine zL_K _ _ _ _ _ _ _ _ _ (zL_pm _ _ _ [(1, _), (0, _), (2, _), (3, _)] _ _ _ _ _ ⟨(List.forall_mem_cons.mpr ⟨List.mem_cons_self, (List.forall_mem_cons.mpr ⟨(List.mem_cons_of_mem _ (List.mem_cons_of_mem _ (List.mem_cons_of_mem _ List.mem_cons_self))), (List.forall_mem_cons.mpr ⟨(List.mem_cons_of_mem _ (List.mem_cons_of_mem _ List.mem_cons_self)), (List.forall_mem_cons.mpr ⟨(List.mem_cons_of_mem _ List.mem_cons_self), (fun _ h => absurd h List.not_mem_nil)⟩)⟩)⟩)⟩), show ([1, 0, 2, 3] : List Nat).Nodup by decide⟩ (C_so2 hc n (i + 1) _ _ _ _ (by omega) (ff.stc d1) ((ff.2.1 71 2 (by omega) (by omega)).trans d2))) (fun o h2 u2 q => ⟨ff.trans q.1, q.2⟩))
            | (have ff := FS.put g1618 (Or.inl ⟨rfl, Or.inl rfl⟩)
               rw [ofNat_succ]
               refine zL_K _ _ _ _ _ _ _ _ _ (zL_pm _ _ _ [(1, _), (0, _), (2, _), (3, _)] _ _ _ _ _ ⟨(List.forall_mem_cons.mpr ⟨List.mem_cons_self, (List.forall_mem_cons.mpr ⟨(List.mem_cons_of_mem _ (List.mem_cons_of_mem _ (List.mem_cons_of_mem _ List.mem_cons_self))), (List.forall_mem_cons.mpr ⟨(List.mem_cons_of_mem _ (List.mem_cons_of_mem _ List.mem_cons_self)), (List.forall_mem_cons.mpr ⟨(List.mem_cons_of_mem _ List.mem_cons_self), (fun _ h => absurd h List.not_mem_nil)⟩)⟩)⟩)⟩), show ([1, 0, 2, 3] : List Nat).Nodup by decide⟩ (C_so2 hc n (i + 1) _ _ _ _ (by omega) (ff.stc d1) ((ff.2.1 71 2 (by omega) (by omega)).trans d2))) (fun o h2 u2 q => ⟨ff.trans q.1, q.2⟩))
            | (have ff := (FS.put g1463 (Or.inr ⟨by omega, by omega, rfl⟩)).trans (FS.put g1487 (Or.inl ⟨rfl, Or.inr rfl⟩))
               rw [ofNat_succ]
               refine zL_K _ _ _ _ _ _ _ _ _ (zL_pm _ _ _ [(1, _), (0, _), (2, _), (3, _)] _ _ _ _ _ ⟨(List.forall_mem_cons.mpr ⟨List.mem_cons_self, (List.forall_mem_cons.mpr ⟨(List.mem_cons_of_mem _ (List.mem_cons_of_mem _ (List.mem_cons_of_mem _ List.mem_cons_self))), (List.forall_mem_cons.mpr ⟨(List.mem_cons_of_mem _ (List.mem_cons_of_mem _ List.mem_cons_self)), (List.forall_mem_cons.mpr ⟨(List.mem_cons_of_mem _ List.mem_cons_self), (fun _ h => absurd h List.not_mem_nil)⟩)⟩)⟩)⟩), show ([1, 0, 2, 3] : List Nat).Nodup by decide⟩ (C_so2 hc n (i + 1) _ _ _ _ (by omega) (ff.stc d1) ((ff.2.1 71 2 (by omega) (by omega)).trans d2))) (fun o h2 u2 q => ⟨ff.trans q.1, q.2⟩))
            | (have ff := FS.put g1463 (Or.inr ⟨by omega, by omega, rfl⟩)
               rw [ofNat_succ]
               refine zL_K _ _ _ _ _ _ _ _ _ (zL_pm _ _ _ [(1, _), (0, _), (2, _), (3, _)] _ _ _ _ _ ⟨(List.forall_mem_cons.mpr ⟨List.mem_cons_self, (List.forall_mem_cons.mpr ⟨(List.mem_cons_of_mem _ (List.mem_cons_of_mem _ (List.mem_cons_of_mem _ List.mem_cons_self))), (List.forall_mem_cons.mpr ⟨(List.mem_cons_of_mem _ (List.mem_cons_of_mem _ List.mem_cons_self)), (List.forall_mem_cons.mpr ⟨(List.mem_cons_of_mem _ List.mem_cons_self), (fun _ h => absurd h List.not_mem_nil)⟩)⟩)⟩)⟩), show ([1, 0, 2, 3] : List Nat).Nodup by decide⟩ (C_so2 hc n (i + 1) _ _ _ _ (by omega) (ff.stc d1) ((ff.2.1 71 2 (by omega) (by omega)).trans d2))) (fun o h2 u2 q => ⟨ff.trans q.1, q.2⟩))
        · cases e1623
          cases f1623
          have c1623 := ndc q1623
          refine zSaload (m := 1) (k := 0) vr_10_113 rfl rfl rfl ?_
          refine zSdup vr_10_114 rfl ?_
          refine zLget vr_10_115 rfl (fun p1628 w1628 e1628 t1628 g1628 => ?_)
          cases e1628
          first | (rw [d2] at g1628; cases g1628) | (rw [(st_71_0 d1)] at g1628; cases g1628) | (rw [hI] at g1628; cases g1628) | (rw [hJ] at g1628; cases g1628) | skip
          refine zSp0 (pc' := 119) (st' := .int (1) :: _) vr_10_118 rfl rfl ?_
          refine zSiload (m := 1) (k := 1) vr_10_119 rfl rfl rfl (fun x1630 e1630 => ?_)
          cases e1630
          refine zS2 (f := fun x y => .int (x <<< (y &&& 31))) vr_10_120 rfl rfl (fun x1631 y1631 e1631 f1631 => ?_)
          cases e1631
          cases f1631
          refine zS2 (f := fun x y => .int (x ||| y)) vr_10_121 rfl rfl (fun x1632 y1632 e1632 f1632 => ?_)
          cases e1632
          cases f1632
          refine zLput vr_10_122 rfl (fun p1633 k1633 e1633 t1633 g1633 => ?_)
          cases e1633
          refine zSiinc vr_10_125 rfl rfl (fun x1634 e1634 => ?_)
          cases e1634
          show zL zrx zi _ 10 128 [(1, _), (3, _), (2, _), (0, _)] [] _ _ _
          refine zSgo (t := 38) vr_10_128 rfl rfl ?_
          first
            | (have ff := (FS.put g1618 (Or.inl ⟨rfl, Or.inl rfl⟩)).trans (FS.put g1633 (Or.inl ⟨rfl, Or.inr rfl⟩))
               rw [ofNat_succ]
               refine zL_K _ _ _ _ _ _ _ _ _ (zL_pm _ _ _ [(1, _), (0, _), (2, _), (3, _)] _ _ _ _ _ ⟨(List.forall_mem_cons.mpr ⟨List.mem_cons_self, (List.forall_mem_cons.mpr ⟨(List.mem_cons_of_mem _ (List.mem_cons_of_mem _ (List.mem_cons_of_mem _ List.mem_cons_self))), (List.forall_mem_cons.mpr ⟨(List.mem_cons_of_mem _ (List.mem_cons_of_mem _ List.mem_cons_self)), (List.forall_mem_cons.mpr ⟨(List.mem_cons_of_mem _ List.mem_cons_self), (fun _ h => absurd h List.not_mem_nil)⟩)⟩)⟩)⟩), show ([1, 0, 2, 3] : List Nat).Nodup by decide⟩ (C_so2 hc n (i + 1) _ _ _ _ (by omega) (ff.stc d1) ((ff.2.1 71 2 (by omega) (by omega)).trans d2))) (fun o h2 u2 q => ⟨ff.trans q.1, q.2⟩))
            | (have ff := FS.put g1618 (Or.inl ⟨rfl, Or.inl rfl⟩)
               rw [ofNat_succ]
               refine zL_K _ _ _ _ _ _ _ _ _ (zL_pm _ _ _ [(1, _), (0, _), (2, _), (3, _)] _ _ _ _ _ ⟨(List.forall_mem_cons.mpr ⟨List.mem_cons_self, (List.forall_mem_cons.mpr ⟨(List.mem_cons_of_mem _ (List.mem_cons_of_mem _ (List.mem_cons_of_mem _ List.mem_cons_self))), (List.forall_mem_cons.mpr ⟨(List.mem_cons_of_mem _ (List.mem_cons_of_mem _ List.mem_cons_self)), (List.forall_mem_cons.mpr ⟨(List.mem_cons_of_mem _ List.mem_cons_self), (fun _ h => absurd h List.not_mem_nil)⟩)⟩)⟩)⟩), show ([1, 0, 2, 3] : List Nat).Nodup by decide⟩ (C_so2 hc n (i + 1) _ _ _ _ (by omega) (ff.stc d1) ((ff.2.1 71 2 (by omega) (by omega)).trans d2))) (fun o h2 u2 q => ⟨ff.trans q.1, q.2⟩))
            | (have ff := (FS.put g1463 (Or.inr ⟨by omega, by omega, rfl⟩)).trans (FS.put g1633 (Or.inl ⟨rfl, Or.inr rfl⟩))
               rw [ofNat_succ]
               refine zL_K _ _ _ _ _ _ _ _ _ (zL_pm _ _ _ [(1, _), (0, _), (2, _), (3, _)] _ _ _ _ _ ⟨(List.forall_mem_cons.mpr ⟨List.mem_cons_self, (List.forall_mem_cons.mpr ⟨(List.mem_cons_of_mem _ (List.mem_cons_of_mem _ (List.mem_cons_of_mem _ List.mem_cons_self))), (List.forall_mem_cons.mpr ⟨(List.mem_cons_of_mem _ (List.mem_cons_of_mem _ List.mem_cons_self)), (List.forall_mem_cons.mpr ⟨(List.mem_cons_of_mem _ List.mem_cons_self), (fun _ h => absurd h List.not_mem_nil)⟩)⟩)⟩)⟩), show ([1, 0, 2, 3] : List Nat).Nodup by decide⟩ (C_so2 hc n (i + 1) _ _ _ _ (by omega) (ff.stc d1) ((ff.2.1 71 2 (by omega) (by omega)).trans d2))) (fun o h2 u2 q => ⟨ff.trans q.1, q.2⟩))
            | (have ff := FS.put g1463 (Or.inr ⟨by omega, by omega, rfl⟩)
               rw [ofNat_succ]
               refine zL_K _ _ _ _ _ _ _ _ _ (zL_pm _ _ _ [(1, _), (0, _), (2, _), (3, _)] _ _ _ _ _ ⟨(List.forall_mem_cons.mpr ⟨List.mem_cons_self, (List.forall_mem_cons.mpr ⟨(List.mem_cons_of_mem _ (List.mem_cons_of_mem _ (List.mem_cons_of_mem _ List.mem_cons_self))), (List.forall_mem_cons.mpr ⟨(List.mem_cons_of_mem _ (List.mem_cons_of_mem _ List.mem_cons_self)), (List.forall_mem_cons.mpr ⟨(List.mem_cons_of_mem _ List.mem_cons_self), (fun _ h => absurd h List.not_mem_nil)⟩)⟩)⟩)⟩), show ([1, 0, 2, 3] : List Nat).Nodup by decide⟩ (C_so2 hc n (i + 1) _ _ _ _ (by omega) (ff.stc d1) ((ff.2.1 71 2 (by omega) (by omega)).trans d2))) (fun o h2 u2 q => ⟨ff.trans q.1, q.2⟩))
      · cases e1610
        have c1610 := ndc q1610
        refine zSiload (m := 1) (k := 3) vr_10_65 rfl rfl rfl (fun x1636 e1636 => ?_)
        cases e1636
        refine zSaload (m := 1) (k := 0) vr_10_66 rfl rfl rfl ?_
        refine zLget vr_10_67 rfl (fun p1638 w1638 e1638 t1638 g1638 => ?_)
        cases e1638
        first | (rw [d2] at g1638; cases g1638) | (rw [(st_71_0 d1)] at g1638; cases g1638) | (rw [hI] at g1638; cases g1638) | (rw [hJ] at g1638; cases g1638) | skip
        refine zSb2 (f := fun x y => decide (x < y)) (off := 18) (t := 88) vr_10_70 rfl rfl rfl (fun x1639 y1639 e1639 f1639 q1639 => ?_) (fun x1639 y1639 e1639 f1639 q1639 => ?_)
        · cases e1639
          cases f1639
          have c1639 := of_decide_eq_true q1639
          have l24 := lt24 c1610 c1639 hc
          have hJ := st_art d1 l24
          refine zSaload (m := 1) (k := 0) vr_10_88 rfl rfl rfl ?_
          refine zLget vr_10_89 rfl (fun p1641 w1641 e1641 t1641 g1641 => ?_)
          cases e1641
          first | (rw [d2] at g1641; cases g1641) | (rw [(st_71_0 d1)] at g1641; cases g1641) | (rw [hI] at g1641; cases g1641) | (rw [hJ] at g1641; cases g1641) | skip
          refine zSiload (m := 1) (k := 3) vr_10_92 rfl rfl rfl (fun x1642 e1642 => ?_)
          cases e1642
          refine zLaald vr_10_93 rfl (fun p1643 x1643 w1643 e1643 f1643 c1643 t1643 g1643 => ?_)
          cases e1643
          cases f1643
          first | (rw [d2] at g1643; cases g1643) | (rw [(st_71_0 d1)] at g1643; cases g1643) | (rw [hI] at g1643; cases g1643) | (rw [hJ] at g1643; cases g1643) | skip
          refine zSdup vr_10_94 rfl ?_
          refine zLget vr_10_95 rfl (fun p1645 w1645 e1645 t1645 g1645 => ?_)
          cases e1645
          first | (rw [d2] at g1645; cases g1645) | (rw [(st_71_0 d1)] at g1645; cases g1645) | (rw [hI] at g1645; cases g1645) | (rw [hJ] at g1645; cases g1645) | skip
          refine zSp0 (pc' := 99) (st' := .int (1) :: _) vr_10_98 rfl rfl ?_
          refine zSiload (m := 1) (k := 1) vr_10_99 rfl rfl rfl (fun x1647 e1647 => ?_)
          cases e1647
          refine zS2 (f := fun x y => .int (x <<< (y &&& 31))) vr_10_100 rfl rfl (fun x1648 y1648 e1648 f1648 => ?_)
          cases e1648
          cases f1648
          refine zS2 (f := fun x y => .int (x ||| y)) vr_10_101 rfl rfl (fun x1649 y1649 e1649 f1649 => ?_)
          cases e1649
          cases f1649
          refine zLput vr_10_102 rfl (fun p1650 k1650 e1650 t1650 g1650 => ?_)
          cases e1650
          refine zSaload (m := 1) (k := 2) vr_10_105 rfl rfl rfl ?_
          refine zLget vr_10_106 rfl (fun p1652 w1652 e1652 t1652 g1652 => ?_)
          cases e1652
          first | (rw [d2] at g1652; cases g1652) | (rw [(st_71_0 d1)] at g1652; cases g1652) | (rw [hI] at g1652; cases g1652) | (rw [hJ] at g1652; cases g1652) | skip
          refine zSp0 (pc' := 110) (st' := .int (-1) :: _) vr_10_109 rfl rfl ?_
          refine zSb2 (f := fun x y => decide (¬ x = y)) (off := 15) (t := 125) vr_10_110 rfl rfl rfl (fun x1654 y1654 e1654 f1654 q1654 => ?_) (fun x1654 y1654 e1654 f1654 q1654 => ?_)
          · cases e1654
            cases f1654
            have c1654 := of_decide_eq_true q1654
            refine zSiinc vr_10_125 rfl rfl (fun x1655 e1655 => ?_)
            cases e1655
            show zL zrx zi _ 10 128 [(1, _), (3, _), (2, _), (0, _)] [] _ _ _
            refine zSgo (t := 38) vr_10_128 rfl rfl ?_
            first
              | (have ff := (FS.put g1618 (Or.inl ⟨rfl, Or.inl rfl⟩)).trans (FS.put g1633 (Or.inl ⟨rfl, Or.inr rfl⟩))
                 rw [ofNat_succ]
                 refine zL_K _ _ _ _ _ _ _ _ _ (zL_pm _ _ _ [(1, _), (0, _), (2, _), (3, _)] _ _ _ _ _ ⟨(List.forall_mem_cons.mpr ⟨List.mem_cons_self, (List.forall_mem_cons.mpr ⟨(List.mem_cons_of_mem _ (List.mem_cons_of_mem _ (List.mem_cons_of_mem _ List.mem_cons_self))), (List.forall_mem_cons.mpr ⟨(List.mem_cons_of_mem _ (List.mem_cons_of_mem _ List.mem_cons_self)), (List.forall_mem_cons.mpr ⟨(List.mem_cons_of_mem _ List.mem_cons_self), (fun _ h => absurd h List.not_mem_nil)⟩)⟩)⟩)⟩), show ([1, 0, 2, 3] : List Nat).Nodup by decide⟩ (C_so2 hc n (i + 1) _ _ _ _ (by omega) (ff.stc d1) ((ff.2.1 71 2 (by omega) (by omega)).trans d2))) (fun o h2 u2 q => ⟨ff.trans q.1, q.2⟩))
              | (have ff := FS.put g1618 (Or.inl ⟨rfl, Or.inl rfl⟩)
                 rw [ofNat_succ]
                 refine zL_K _ _ _ _ _ _ _ _ _ (zL_pm _ _ _ [(1, _), (0, _), (2, _), (3, _)] _ _ _ _ _ ⟨(List.forall_mem_cons.mpr ⟨List.mem_cons_self, (List.forall_mem_cons.mpr ⟨(List.mem_cons_of_mem _ (List.mem_cons_of_mem _ (List.mem_cons_of_mem _ List.mem_cons_self))), (List.forall_mem_cons.mpr ⟨(List.mem_cons_of_mem _ (List.mem_cons_of_mem _ List.mem_cons_self)), (List.forall_mem_cons.mpr ⟨(List.mem_cons_of_mem _ List.mem_cons_self), (fun _ h => absurd h List.not_mem_nil)⟩)⟩)⟩)⟩), show ([1, 0, 2, 3] : List Nat).Nodup by decide⟩ (C_so2 hc n (i + 1) _ _ _ _ (by omega) (ff.stc d1) ((ff.2.1 71 2 (by omega) (by omega)).trans d2))) (fun o h2 u2 q => ⟨ff.trans q.1, q.2⟩))
              | (have ff := (FS.put g1650 (Or.inr ⟨by omega, by omega, rfl⟩)).trans (FS.put g1633 (Or.inl ⟨rfl, Or.inr rfl⟩))
                 rw [ofNat_succ]
                 refine zL_K _ _ _ _ _ _ _ _ _ (zL_pm _ _ _ [(1, _), (0, _), (2, _), (3, _)] _ _ _ _ _ ⟨(List.forall_mem_cons.mpr ⟨List.mem_cons_self, (List.forall_mem_cons.mpr ⟨(List.mem_cons_of_mem _ (List.mem_cons_of_mem _ (List.mem_cons_of_mem _ List.mem_cons_self))), (List.forall_mem_cons.mpr ⟨(List.mem_cons_of_mem _ (List.mem_cons_of_mem _ List.mem_cons_self)), (List.forall_mem_cons.mpr ⟨(List.mem_cons_of_mem _ List.mem_cons_self), (fun _ h => absurd h List.not_mem_nil)⟩)⟩)⟩)⟩), show ([1, 0, 2, 3] : List Nat).Nodup by decide⟩ (C_so2 hc n (i + 1) _ _ _ _ (by omega) (ff.stc d1) ((ff.2.1 71 2 (by omega) (by omega)).trans d2))) (fun o h2 u2 q => ⟨ff.trans q.1, q.2⟩))
              | (have ff := FS.put g1650 (Or.inr ⟨by omega, by omega, rfl⟩)
                 rw [ofNat_succ]
                 refine zL_K _ _ _ _ _ _ _ _ _ (zL_pm _ _ _ [(1, _), (0, _), (2, _), (3, _)] _ _ _ _ _ ⟨(List.forall_mem_cons.mpr ⟨List.mem_cons_self, (List.forall_mem_cons.mpr ⟨(List.mem_cons_of_mem _ (List.mem_cons_of_mem _ (List.mem_cons_of_mem _ List.mem_cons_self))), (List.forall_mem_cons.mpr ⟨(List.mem_cons_of_mem _ (List.mem_cons_of_mem _ List.mem_cons_self)), (List.forall_mem_cons.mpr ⟨(List.mem_cons_of_mem _ List.mem_cons_self), (fun _ h => absurd h List.not_mem_nil)⟩)⟩)⟩)⟩), show ([1, 0, 2, 3] : List Nat).Nodup by decide⟩ (C_so2 hc n (i + 1) _ _ _ _ (by omega) (ff.stc d1) ((ff.2.1 71 2 (by omega) (by omega)).trans d2))) (fun o h2 u2 q => ⟨ff.trans q.1, q.2⟩))
          · cases e1654
            cases f1654
            have c1654 := ndc q1654
            refine zSaload (m := 1) (k := 0) vr_10_113 rfl rfl rfl ?_
            refine zSdup vr_10_114 rfl ?_
            refine zLget vr_10_115 rfl (fun p1659 w1659 e1659 t1659 g1659 => ?_)
            cases e1659
            first | (rw [d2] at g1659; cases g1659) | (rw [(st_71_0 d1)] at g1659; cases g1659) | (rw [hI] at g1659; cases g1659) | (rw [hJ] at g1659; cases g1659) | skip
            refine zSp0 (pc' := 119) (st' := .int (1) :: _) vr_10_118 rfl rfl ?_
            refine zSiload (m := 1) (k := 1) vr_10_119 rfl rfl rfl (fun x1661 e1661 => ?_)
            cases e1661
            refine zS2 (f := fun x y => .int (x <<< (y &&& 31))) vr_10_120 rfl rfl (fun x1662 y1662 e1662 f1662 => ?_)
            cases e1662
            cases f1662
            refine zS2 (f := fun x y => .int (x ||| y)) vr_10_121 rfl rfl (fun x1663 y1663 e1663 f1663 => ?_)
            cases e1663
            cases f1663
            refine zLput vr_10_122 rfl (fun p1664 k1664 e1664 t1664 g1664 => ?_)
            cases e1664
            refine zSiinc vr_10_125 rfl rfl (fun x1665 e1665 => ?_)
            cases e1665
            show zL zrx zi _ 10 128 [(1, _), (3, _), (2, _), (0, _)] [] _ _ _
            refine zSgo (t := 38) vr_10_128 rfl rfl ?_
            first
              | (have ff := (FS.put g1618 (Or.inl ⟨rfl, Or.inl rfl⟩)).trans (FS.put g1664 (Or.inl ⟨rfl, Or.inr rfl⟩))
                 rw [ofNat_succ]
                 refine zL_K _ _ _ _ _ _ _ _ _ (zL_pm _ _ _ [(1, _), (0, _), (2, _), (3, _)] _ _ _ _ _ ⟨(List.forall_mem_cons.mpr ⟨List.mem_cons_self, (List.forall_mem_cons.mpr ⟨(List.mem_cons_of_mem _ (List.mem_cons_of_mem _ (List.mem_cons_of_mem _ List.mem_cons_self))), (List.forall_mem_cons.mpr ⟨(List.mem_cons_of_mem _ (List.mem_cons_of_mem _ List.mem_cons_self)), (List.forall_mem_cons.mpr ⟨(List.mem_cons_of_mem _ List.mem_cons_self), (fun _ h => absurd h List.not_mem_nil)⟩)⟩)⟩)⟩), show ([1, 0, 2, 3] : List Nat).Nodup by decide⟩ (C_so2 hc n (i + 1) _ _ _ _ (by omega) (ff.stc d1) ((ff.2.1 71 2 (by omega) (by omega)).trans d2))) (fun o h2 u2 q => ⟨ff.trans q.1, q.2⟩))
              | (have ff := FS.put g1618 (Or.inl ⟨rfl, Or.inl rfl⟩)
                 rw [ofNat_succ]
                 refine zL_K _ _ _ _ _ _ _ _ _ (zL_pm _ _ _ [(1, _), (0, _), (2, _), (3, _)] _ _ _ _ _ ⟨(List.forall_mem_cons.mpr ⟨List.mem_cons_self, (List.forall_mem_cons.mpr ⟨(List.mem_cons_of_mem _ (List.mem_cons_of_mem _ (List.mem_cons_of_mem _ List.mem_cons_self))), (List.forall_mem_cons.mpr ⟨(List.mem_cons_of_mem _ (List.mem_cons_of_mem _ List.mem_cons_self)), (List.forall_mem_cons.mpr ⟨(List.mem_cons_of_mem _ List.mem_cons_self), (fun _ h => absurd h List.not_mem_nil)⟩)⟩)⟩)⟩), show ([1, 0, 2, 3] : List Nat).Nodup by decide⟩ (C_so2 hc n (i + 1) _ _ _ _ (by omega) (ff.stc d1) ((ff.2.1 71 2 (by omega) (by omega)).trans d2))) (fun o h2 u2 q => ⟨ff.trans q.1, q.2⟩))
              | (have ff := (FS.put g1650 (Or.inr ⟨by omega, by omega, rfl⟩)).trans (FS.put g1664 (Or.inl ⟨rfl, Or.inr rfl⟩))
                 rw [ofNat_succ]
                 refine zL_K _ _ _ _ _ _ _ _ _ (zL_pm _ _ _ [(1, _), (0, _), (2, _), (3, _)] _ _ _ _ _ ⟨(List.forall_mem_cons.mpr ⟨List.mem_cons_self, (List.forall_mem_cons.mpr ⟨(List.mem_cons_of_mem _ (List.mem_cons_of_mem _ (List.mem_cons_of_mem _ List.mem_cons_self))), (List.forall_mem_cons.mpr ⟨(List.mem_cons_of_mem _ (List.mem_cons_of_mem _ List.mem_cons_self)), (List.forall_mem_cons.mpr ⟨(List.mem_cons_of_mem _ List.mem_cons_self), (fun _ h => absurd h List.not_mem_nil)⟩)⟩)⟩)⟩), show ([1, 0, 2, 3] : List Nat).Nodup by decide⟩ (C_so2 hc n (i + 1) _ _ _ _ (by omega) (ff.stc d1) ((ff.2.1 71 2 (by omega) (by omega)).trans d2))) (fun o h2 u2 q => ⟨ff.trans q.1, q.2⟩))
              | (have ff := FS.put g1650 (Or.inr ⟨by omega, by omega, rfl⟩)
                 rw [ofNat_succ]
                 refine zL_K _ _ _ _ _ _ _ _ _ (zL_pm _ _ _ [(1, _), (0, _), (2, _), (3, _)] _ _ _ _ _ ⟨(List.forall_mem_cons.mpr ⟨List.mem_cons_self, (List.forall_mem_cons.mpr ⟨(List.mem_cons_of_mem _ (List.mem_cons_of_mem _ (List.mem_cons_of_mem _ List.mem_cons_self))), (List.forall_mem_cons.mpr ⟨(List.mem_cons_of_mem _ (List.mem_cons_of_mem _ List.mem_cons_self)), (List.forall_mem_cons.mpr ⟨(List.mem_cons_of_mem _ List.mem_cons_self), (fun _ h => absurd h List.not_mem_nil)⟩)⟩)⟩)⟩), show ([1, 0, 2, 3] : List Nat).Nodup by decide⟩ (C_so2 hc n (i + 1) _ _ _ _ (by omega) (ff.stc d1) ((ff.2.1 71 2 (by omega) (by omega)).trans d2))) (fun o h2 u2 q => ⟨ff.trans q.1, q.2⟩))
        · cases e1639
          cases f1639
          have c1639 := ndc q1639
          refine zSaload (m := 1) (k := 0) vr_10_73 rfl rfl rfl ?_
          refine zSdup vr_10_74 rfl ?_
          refine zLget vr_10_75 rfl (fun p1669 w1669 e1669 t1669 g1669 => ?_)
          cases e1669
          first | (rw [d2] at g1669; cases g1669) | (rw [(st_71_0 d1)] at g1669; cases g1669) | (rw [hI] at g1669; cases g1669) | (rw [hJ] at g1669; cases g1669) | skip
          refine zSp0 (pc' := 79) (st' := .int (1) :: _) vr_10_78 rfl rfl ?_
          refine zSiload (m := 1) (k := 1) vr_10_79 rfl rfl rfl (fun x1671 e1671 => ?_)
          cases e1671
          refine zS2 (f := fun x y => .int (x <<< (y &&& 31))) vr_10_80 rfl rfl (fun x1672 y1672 e1672 f1672 => ?_)
          cases e1672
          cases f1672
          refine zS2 (f := fun x y => .int (x ||| y)) vr_10_81 rfl rfl (fun x1673 y1673 e1673 f1673 => ?_)
          cases e1673
          cases f1673
          refine zLput vr_10_82 rfl (fun p1674 k1674 e1674 t1674 g1674 => ?_)
          cases e1674
          refine zSgo (t := 105) vr_10_85 rfl rfl ?_
          refine zSaload (m := 1) (k := 2) vr_10_105 rfl rfl rfl ?_
          refine zLget vr_10_106 rfl (fun p1677 w1677 e1677 t1677 g1677 => ?_)
          cases e1677
          first | (rw [d2] at g1677; cases g1677) | (rw [(st_71_0 d1)] at g1677; cases g1677) | (rw [hI] at g1677; cases g1677) | (rw [hJ] at g1677; cases g1677) | skip
          refine zSp0 (pc' := 110) (st' := .int (-1) :: _) vr_10_109 rfl rfl ?_
          refine zSb2 (f := fun x y => decide (¬ x = y)) (off := 15) (t := 125) vr_10_110 rfl rfl rfl (fun x1679 y1679 e1679 f1679 q1679 => ?_) (fun x1679 y1679 e1679 f1679 q1679 => ?_)
          · cases e1679
            cases f1679
            have c1679 := of_decide_eq_true q1679
            refine zSiinc vr_10_125 rfl rfl (fun x1680 e1680 => ?_)
            cases e1680
            show zL zrx zi _ 10 128 [(1, _), (3, _), (2, _), (0, _)] [] _ _ _
            refine zSgo (t := 38) vr_10_128 rfl rfl ?_
            first
              | (have ff := (FS.put g1674 (Or.inl ⟨rfl, Or.inl rfl⟩)).trans (FS.put g1664 (Or.inl ⟨rfl, Or.inr rfl⟩))
                 rw [ofNat_succ]
                 refine zL_K _ _ _ _ _ _ _ _ _ (zL_pm _ _ _ [(1, _), (0, _), (2, _), (3, _)] _ _ _ _ _ ⟨(List.forall_mem_cons.mpr ⟨List.mem_cons_self, (List.forall_mem_cons.mpr ⟨(List.mem_cons_of_mem _ (List.mem_cons_of_mem _ (List.mem_cons_of_mem _ List.mem_cons_self))), (List.forall_mem_cons.mpr ⟨(List.mem_cons_of_mem _ (List.mem_cons_of_mem _ List.mem_cons_self)), (List.forall_mem_cons.mpr ⟨(List.mem_cons_of_mem _ List.mem_cons_self), (fun _ h => absurd h List.not_mem_nil)⟩)⟩)⟩)⟩), show ([1, 0, 2, 3] : List Nat).Nodup by decide⟩ (C_so2 hc n (i + 1) _ _ _ _ (by omega) (ff.stc d1) ((ff.2.1 71 2 (by omega) (by omega)).trans d2))) (fun o h2 u2 q => ⟨ff.trans q.1, q.2⟩))
              | (have ff := FS.put g1674 (Or.inl ⟨rfl, Or.inl rfl⟩)
                 rw [ofNat_succ]
                 refine zL_K _ _ _ _ _ _ _ _ _ (zL_pm _ _ _ [(1, _), (0, _), (2, _), (3, _)] _ _ _ _ _ ⟨(List.forall_mem_cons.mpr ⟨List.mem_cons_self, (List.forall_mem_cons.mpr ⟨(List.mem_cons_of_mem _ (List.mem_cons_of_mem _ (List.mem_cons_of_mem _ List.mem_cons_self))), (List.forall_mem_cons.mpr ⟨(List.mem_cons_of_mem _ (List.mem_cons_of_mem _ List.mem_cons_self)), (List.forall_mem_cons.mpr ⟨(List.mem_cons_of_mem _ List.mem_cons_self), (fun _ h => absurd h List.not_mem_nil)⟩)⟩)⟩)⟩), show ([1, 0, 2, 3] : List Nat).Nodup by decide⟩ (C_so2 hc n (i + 1) _ _ _ _ (by omega) (ff.stc d1) ((ff.2.1 71 2 (by omega) (by omega)).trans d2))) (fun o h2 u2 q => ⟨ff.trans q.1, q.2⟩))
              | (have ff := (FS.put g1650 (Or.inr ⟨by omega, by omega, rfl⟩)).trans (FS.put g1664 (Or.inl ⟨rfl, Or.inr rfl⟩))
                 rw [ofNat_succ]
                 refine zL_K _ _ _ _ _ _ _ _ _ (zL_pm _ _ _ [(1, _), (0, _), (2, _), (3, _)] _ _ _ _ _ ⟨(List.forall_mem_cons.mpr ⟨List.mem_cons_self, (List.forall_mem_cons.mpr ⟨(List.mem_cons_of_mem _ (List.mem_cons_of_mem _ (List.mem_cons_of_mem _ List.mem_cons_self))), (List.forall_mem_cons.mpr ⟨(List.mem_cons_of_mem _ (List.mem_cons_of_mem _ List.mem_cons_self)), (List.forall_mem_cons.mpr ⟨(List.mem_cons_of_mem _ List.mem_cons_self), (fun _ h => absurd h List.not_mem_nil)⟩)⟩)⟩)⟩), show ([1, 0, 2, 3] : List Nat).Nodup by decide⟩ (C_so2 hc n (i + 1) _ _ _ _ (by omega) (ff.stc d1) ((ff.2.1 71 2 (by omega) (by omega)).trans d2))) (fun o h2 u2 q => ⟨ff.trans q.1, q.2⟩))
              | (have ff := FS.put g1650 (Or.inr ⟨by omega, by omega, rfl⟩)
                 rw [ofNat_succ]
                 refine zL_K _ _ _ _ _ _ _ _ _ (zL_pm _ _ _ [(1, _), (0, _), (2, _), (3, _)] _ _ _ _ _ ⟨(List.forall_mem_cons.mpr ⟨List.mem_cons_self, (List.forall_mem_cons.mpr ⟨(List.mem_cons_of_mem _ (List.mem_cons_of_mem _ (List.mem_cons_of_mem _ List.mem_cons_self))), (List.forall_mem_cons.mpr ⟨(List.mem_cons_of_mem _ (List.mem_cons_of_mem _ List.mem_cons_self)), (List.forall_mem_cons.mpr ⟨(List.mem_cons_of_mem _ List.mem_cons_self), (fun _ h => absurd h List.not_mem_nil)⟩)⟩)⟩)⟩), show ([1, 0, 2, 3] : List Nat).Nodup by decide⟩ (C_so2 hc n (i + 1) _ _ _ _ (by omega) (ff.stc d1) ((ff.2.1 71 2 (by omega) (by omega)).trans d2))) (fun o h2 u2 q => ⟨ff.trans q.1, q.2⟩))
          · cases e1679
            cases f1679
            have c1679 := ndc q1679
            refine zSaload (m := 1) (k := 0) vr_10_113 rfl rfl rfl ?_
            refine zSdup vr_10_114 rfl ?_
            refine zLget vr_10_115 rfl (fun p1684 w1684 e1684 t1684 g1684 => ?_)
            cases e1684
            first | (rw [d2] at g1684; cases g1684) | (rw [(st_71_0 d1)] at g1684; cases g1684) | (rw [hI] at g1684; cases g1684) | (rw [hJ] at g1684; cases g1684) | skip
            refine zSp0 (pc' := 119) (st' := .int (1) :: _) vr_10_118 rfl rfl ?_
            refine zSiload (m := 1) (k := 1) vr_10_119 rfl rfl rfl (fun x1686 e1686 => ?_)
            cases e1686
            refine zS2 (f := fun x y => .int (x <<< (y &&& 31))) vr_10_120 rfl rfl (fun x1687 y1687 e1687 f1687 => ?_)
            cases e1687
            cases f1687
            refine zS2 (f := fun x y => .int (x ||| y)) vr_10_121 rfl rfl (fun x1688 y1688 e1688 f1688 => ?_)
            cases e1688
            cases f1688
            refine zLput vr_10_122 rfl (fun p1689 k1689 e1689 t1689 g1689 => ?_)
            cases e1689
            refine zSiinc vr_10_125 rfl rfl (fun x1690 e1690 => ?_)
            cases e1690
            show zL zrx zi _ 10 128 [(1, _), (3, _), (2, _), (0, _)] [] _ _ _
            refine zSgo (t := 38) vr_10_128 rfl rfl ?_
            first
              | (have ff := (FS.put g1674 (Or.inl ⟨rfl, Or.inl rfl⟩)).trans (FS.put g1689 (Or.inl ⟨rfl, Or.inr rfl⟩))
                 rw [ofNat_succ]
                 refine zL_K _ _ _ _ _ _ _ _ _ (zL_pm _ _ _ [(1, _), (0, _), (2, _), (3, _)] _ _ _ _ _ ⟨(List.forall_mem_cons.mpr ⟨List.mem_cons_self, (List.forall_mem_cons.mpr ⟨(List.mem_cons_of_mem _ (List.mem_cons_of_mem _ (List.mem_cons_of_mem _ List.mem_cons_self))), (List.forall_mem_cons.mpr ⟨(List.mem_cons_of_mem _ (List.mem_cons_of_mem _ List.mem_cons_self)), (List.forall_mem_cons.mpr ⟨(List.mem_cons_of_mem _ List.mem_cons_self), (fun _ h => absurd h List.not_mem_nil)⟩)⟩)⟩)⟩), show ([1, 0, 2, 3] : List Nat).Nodup by decide⟩ (C_so2 hc n (i + 1) _ _ _ _ (by omega) (ff.stc d1) ((ff.2.1 71 2 (by omega) (by omega)).trans d2))) (fun o h2 u2 q => ⟨ff.trans q.1, q.2⟩))
              | (have ff := FS.put g1674 (Or.inl ⟨rfl, Or.inl rfl⟩)
                 rw [ofNat_succ]
                 refine zL_K _ _ _ _ _ _ _ _ _ (zL_pm _ _ _ [(1, _), (0, _), (2, _), (3, _)] _ _ _ _ _ ⟨(List.forall_mem_cons.mpr ⟨List.mem_cons_self, (List.forall_mem_cons.mpr ⟨(List.mem_cons_of_mem _ (List.mem_cons_of_mem _ (List.mem_cons_of_mem _ List.mem_cons_self))), (List.forall_mem_cons.mpr ⟨(List.mem_cons_of_mem _ (List.mem_cons_of_mem _ List.mem_cons_self)), (List.forall_mem_cons.mpr ⟨(List.mem_cons_of_mem _ List.mem_cons_self), (fun _ h => absurd h List.not_mem_nil)⟩)⟩)⟩)⟩), show ([1, 0, 2, 3] : List Nat).Nodup by decide⟩ (C_so2 hc n (i + 1) _ _ _ _ (by omega) (ff.stc d1) ((ff.2.1 71 2 (by omega) (by omega)).trans d2))) (fun o h2 u2 q => ⟨ff.trans q.1, q.2⟩))
              | (have ff := (FS.put g1650 (Or.inr ⟨by omega, by omega, rfl⟩)).trans (FS.put g1689 (Or.inl ⟨rfl, Or.inr rfl⟩))
                 rw [ofNat_succ]
                 refine zL_K _ _ _ _ _ _ _ _ _ (zL_pm _ _ _ [(1, _), (0, _), (2, _), (3, _)] _ _ _ _ _ ⟨(List.forall_mem_cons.mpr ⟨List.mem_cons_self, (List.forall_mem_cons.mpr ⟨(List.mem_cons_of_mem _ (List.mem_cons_of_mem _ (List.mem_cons_of_mem _ List.mem_cons_self))), (List.forall_mem_cons.mpr ⟨(List.mem_cons_of_mem _ (List.mem_cons_of_mem _ List.mem_cons_self)), (List.forall_mem_cons.mpr ⟨(List.mem_cons_of_mem _ List.mem_cons_self), (fun _ h => absurd h List.not_mem_nil)⟩)⟩)⟩)⟩), show ([1, 0, 2, 3] : List Nat).Nodup by decide⟩ (C_so2 hc n (i + 1) _ _ _ _ (by omega) (ff.stc d1) ((ff.2.1 71 2 (by omega) (by omega)).trans d2))) (fun o h2 u2 q => ⟨ff.trans q.1, q.2⟩))
              | (have ff := FS.put g1650 (Or.inr ⟨by omega, by omega, rfl⟩)
                 rw [ofNat_succ]
                 refine zL_K _ _ _ _ _ _ _ _ _ (zL_pm _ _ _ [(1, _), (0, _), (2, _), (3, _)] _ _ _ _ _ ⟨(List.forall_mem_cons.mpr ⟨List.mem_cons_self, (List.forall_mem_cons.mpr ⟨(List.mem_cons_of_mem _ (List.mem_cons_of_mem _ (List.mem_cons_of_mem _ List.mem_cons_self))), (List.forall_mem_cons.mpr ⟨(List.mem_cons_of_mem _ (List.mem_cons_of_mem _ List.mem_cons_self)), (List.forall_mem_cons.mpr ⟨(List.mem_cons_of_mem _ List.mem_cons_self), (fun _ h => absurd h List.not_mem_nil)⟩)⟩)⟩)⟩), show ([1, 0, 2, 3] : List Nat).Nodup by decide⟩ (C_so2 hc n (i + 1) _ _ _ _ (by omega) (ff.stc d1) ((ff.2.1 71 2 (by omega) (by omega)).trans d2))) (fun o h2 u2 q => ⟨ff.trans q.1, q.2⟩))
set_option maxRecDepth 20000 in
theorem C_so1 {c : Int32} (hc : c.toInt ≤ 24) : ∀ (n i : Nat) (h : List zC) (u : Nat), i ≤ 24 → Stc h → gF h 71 2 = some (.int c) → zL zrx zi n 10 12 [(1, .int (Int32.ofNat i)), (0, .ref 71)] [] h u (fun o h2 _ => FS h h2 ∧ o = .inl none)
  | 0, _, _, _ => fun _ _ _ => trivial
  | n + 1, i, h, u => fun hi d1 d2 => by
    have ki := toNat_ofNat (m := i) (by omega)
    refine zLp vr_10_12 rfl rfl ?_
    refine zSaload (m := 1) (k := 0) vr_10_13 rfl rfl rfl ?_
    refine zLget vr_10_14 rfl (fun p1693 w1693 e1693 t1693 g1693 => ?_)
    cases e1693
    first | (rw [d2] at g1693; cases g1693) | (rw [(st_71_0 d1)] at g1693; cases g1693) | (rw [hI] at g1693; cases g1693) | skip
    refine zSb2 (f := fun x y => decide (y ≤ x)) (off := 19) (t := 36) vr_10_17 rfl rfl rfl (fun x1694 y1694 e1694 f1694 q1694 => ?_) (fun x1694 y1694 e1694 f1694 q1694 => ?_)
    · cases e1694
      cases f1694
      have c1694 := of_decide_eq_true q1694
      refine zSp0 (pc' := 37) (st' := .int (0) :: _) vr_10_36 rfl rfl ?_
      refine zSistore (m := 1) (k := 1) vr_10_37 rfl rfl (fun x1696 e1696 => ?_)
      cases e1696
      show zL zrx zi _ 10 38 [(1, _), (0, _)] [] _ _ _
      exact zL_pm _ _ _ [(1, _), (0, _), (2, _), (3, _)] _ _ _ _ _ ⟨(List.forall_mem_cons.mpr ⟨List.mem_cons_self, (List.forall_mem_cons.mpr ⟨(List.mem_cons_of_mem _ List.mem_cons_self), (fun _ h => absurd h List.not_mem_nil)⟩)⟩), show ([1, 0, 2, 3] : List Nat).Nodup by decide⟩ (C_so2 hc _ 0 .null .null _ _ (by omega) d1 d2)
    · cases e1694
      cases f1694
      have c1694 := ndc q1694
      have i24 : i < 24 := by
        have y := c1694
        rw [i32_le, ki.2] at y
        omega
      have hI : gF h 72 (Int32.ofNat i).toNatClampNeg = some (.ref (73 + 4 * i)) := by
        rw [ki.1]
        exact st_art d1 i24
      refine zSaload (m := 1) (k := 0) vr_10_20 rfl rfl rfl ?_
      refine zLget vr_10_21 rfl (fun p1698 w1698 e1698 t1698 g1698 => ?_)
      cases e1698
      first | (rw [d2] at g1698; cases g1698) | (rw [(st_71_0 d1)] at g1698; cases g1698) | (rw [hI] at g1698; cases g1698) | skip
      refine zSiload (m := 1) (k := 1) vr_10_24 rfl rfl rfl (fun x1699 e1699 => ?_)
      cases e1699
      refine zLaald vr_10_25 rfl (fun p1700 x1700 w1700 e1700 f1700 c1700 t1700 g1700 => ?_)
      cases e1700
      cases f1700
      first | (rw [d2] at g1700; cases g1700) | (rw [(st_71_0 d1)] at g1700; cases g1700) | (rw [hI] at g1700; cases g1700) | skip
      refine zSp0 (pc' := 27) (st' := .int (0) :: _) vr_10_26 rfl rfl ?_
      refine zLput vr_10_27 rfl (fun p1702 k1702 e1702 t1702 g1702 => ?_)
      cases e1702
      refine zSiinc vr_10_30 rfl rfl (fun x1703 e1703 => ?_)
      cases e1703
      show zL zrx zi _ 10 33 [(1, _), (0, _)] [] _ _ _
      refine zSgo (t := 12) vr_10_33 rfl rfl ?_
      have ff := FS.put g1702 (Or.inr ⟨by omega, by omega, rfl⟩)
      rw [ofNat_succ]
      refine zL_K _ _ _ _ _ _ _ _ _ (zL_pm _ _ _ [(1, _), (0, _)] _ _ _ _ _ ⟨(List.forall_mem_cons.mpr ⟨List.mem_cons_self, (List.forall_mem_cons.mpr ⟨(List.mem_cons_of_mem _ List.mem_cons_self), (fun _ h => absurd h List.not_mem_nil)⟩)⟩), show ([1, 0] : List Nat).Nodup by decide⟩ (C_so1 hc n (i + 1) _ _ (by omega) (ff.stc d1) ((ff.2.1 71 2 (by omega) (by omega)).trans d2))) (fun o h2 u2 q => ⟨ff.trans q.1, q.2⟩)
theorem C_sort (n : Nat)  (h : List zC) (u : Nat) {c : Int32} (hc : c.toInt ≤ 24) (d1 : Stc h) (d2 : gF h 71 2 = some (.int c)) : zL zrx zi n 10 0 [(0, .ref 71)] [] h u (fun o h2 _ => FS h h2 ∧ o = .inl none) := by
  refine zSaload (m := 1) (k := 0) vr_10_0 rfl rfl rfl ?_
  refine zSp0 (pc' := 2) (st' := .int (0) :: _) vr_10_1 rfl rfl ?_
  refine zLput vr_10_2 rfl (fun p1707 k1707 e1707 t1707 g1707 => ?_)
  cases e1707
  refine zSaload (m := 1) (k := 0) vr_10_5 rfl rfl rfl ?_
  refine zSp0 (pc' := 7) (st' := .int (0) :: _) vr_10_6 rfl rfl ?_
  refine zLput vr_10_7 rfl (fun p1710 k1710 e1710 t1710 g1710 => ?_)
  cases e1710
  refine zSp0 (pc' := 11) (st' := .int (0) :: _) vr_10_10 rfl rfl ?_
  refine zSistore (m := 1) (k := 1) vr_10_11 rfl rfl (fun x1712 e1712 => ?_)
  cases e1712
  show zL zrx zi _ 10 12 [(1, _), (0, _)] [] _ _ _
  have ff := (FS.put g1707 (Or.inl ⟨rfl, Or.inl rfl⟩)).trans (FS.put g1710 (Or.inl ⟨rfl, Or.inr rfl⟩))
  refine zL_K _ _ _ _ _ _ _ _ _ (zL_pm _ _ _ [(1, _), (0, _)] _ _ _ _ _ ⟨(List.forall_mem_cons.mpr ⟨List.mem_cons_self, (List.forall_mem_cons.mpr ⟨(List.mem_cons_of_mem _ List.mem_cons_self), (fun _ h => absurd h List.not_mem_nil)⟩)⟩), show ([1, 0] : List Nat).Nodup by decide⟩ (C_so1 hc _ 0 _ _ (by omega) (ff.stc d1) ((ff.2.1 71 2 (by omega) (by omega)).trans d2))) (fun o h2 u2 q => ⟨ff.trans q.1, q.2⟩)
theorem C_put (n : Nat) (nb : Int32) (C : Nat) (h : List zC) (u : Nat) {c : Int32} (h1 : 0 ≤ nb.toInt) (h2 : nb.toInt < 24) (hc : c.toInt ≤ 24) (d1 : Stc h) (d2 : gF h 71 2 = some (.int c)) : zL zrx zi n 9 0 [(0, .ref 71), (1, .int nb), (2, .ref C)] [] h u (fun o h2 _ => o = .inl none ∧ PT h h2 nb.toNatClampNeg C (mxI c (nb + 1))) := by
  refine zSiload (m := 1) (k := 1) vr_9_0 rfl rfl rfl (fun x1713 e1713 => ?_)
  cases e1713
  refine zSb1 (f := fun x => decide (x < 0)) (off := 9) (t := 10) vr_9_1 rfl rfl rfl (fun x1714 e1714 q1714 => ?_) (fun x1714 e1714 q1714 => ?_)
  · cases e1714
    have c1714 := of_decide_eq_true q1714
    refine zSvoid vr_9_10 rfl ?_
    exfalso
    have z0 : (0 : Int32).toInt = 0 := rfl
    have z24 : (24 : Int32).toInt = 24 := rfl
    first
      | (have y := c1714
         rw [i32_lt] at y
         omega)
      | (have y := c1710
         rw [i32_lt] at y
         omega)
  · cases e1714
    have c1714 := ndc q1714
    refine zSiload (m := 1) (k := 1) vr_9_4 rfl rfl rfl (fun x1716 e1716 => ?_)
    cases e1716
    refine zSp0 (pc' := 7) (st' := .int (24) :: _) vr_9_5 rfl rfl ?_
    refine zSb2 (f := fun x y => decide (x < y)) (off := 4) (t := 11) vr_9_7 rfl rfl rfl (fun x1718 y1718 e1718 f1718 q1718 => ?_) (fun x1718 y1718 e1718 f1718 q1718 => ?_)
    · cases e1718
      cases f1718
      have c1718 := of_decide_eq_true q1718
      have n24 := n24_of h1 h2
      have hI := st_art d1 n24
      refine zSaload (m := 1) (k := 0) vr_9_11 rfl rfl rfl ?_
      refine zLget vr_9_12 rfl (fun p1720 w1720 e1720 t1720 g1720 => ?_)
      cases e1720
      first | (rw [(st_71_0 d1)] at g1720; cases g1720) | (rw [hI] at g1720; cases g1720) | (rw [hC] at g1720; cases g1720) | skip
      refine zSiload (m := 1) (k := 1) vr_9_15 rfl rfl rfl (fun x1721 e1721 => ?_)
      cases e1721
      refine zLaald vr_9_16 rfl (fun p1722 x1722 w1722 e1722 f1722 c1722 t1722 g1722 => ?_)
      cases e1722
      cases f1722
      first | (rw [(st_71_0 d1)] at g1722; cases g1722) | (rw [hI] at g1722; cases g1722) | (rw [hC] at g1722; cases g1722) | skip
      refine zSaload (m := 1) (k := 2) vr_9_17 rfl rfl rfl ?_
      refine zLput vr_9_18 rfl (fun p1724 k1724 e1724 t1724 g1724 => ?_)
      cases e1724
      have hC := (g1724.2.1 71 2).trans ((if_neg (by omega)).trans d2)
      refine zSaload (m := 1) (k := 0) vr_9_21 rfl rfl rfl ?_
      refine zSaload (m := 1) (k := 0) vr_9_22 rfl rfl rfl ?_
      refine zLget vr_9_23 rfl (fun p1727 w1727 e1727 t1727 g1727 => ?_)
      cases e1727
      first | (rw [(st_71_0 d1)] at g1727; cases g1727) | (rw [hI] at g1727; cases g1727) | (rw [hC] at g1727; cases g1727) | skip
      refine zSiload (m := 1) (k := 1) vr_9_26 rfl rfl rfl (fun x1728 e1728 => ?_)
      cases e1728
      refine zSp0 (pc' := 28) (st' := .int (1) :: _) vr_9_27 rfl rfl ?_
      refine zS2 (f := fun x y => .int (x + y)) vr_9_28 rfl rfl (fun x1730 y1730 e1730 f1730 => ?_)
      cases e1730
      cases f1730
      refine zScall vr_9_29 rfl rfl rfl (fun m1731 _ => C_mxI _ _ _ _ _) (fun v1731 h1731 u1731 q1731 => ?_) (fun E1731 h1731 u1731 q1731 => ?_)
      · obtain ⟨eh1731, z1731⟩ := q1731
        subst eh1731
        cases z1731
        show zL zrx zi _ 9 32 [(0, _), (1, _), (2, _)] [_, _] _ _ _
        refine zLput vr_9_32 rfl (fun p1732 k1732 e1732 t1732 g1732 => ?_)
        cases e1732
        have s2 := (d1.put g1724 (art_st n24)).fld g1732 (by decide +kernel)
        have c3 := (g1732.2.1 71 2).trans (if_pos ⟨rfl, rfl⟩)
        refine zSaload (m := 1) (k := 0) vr_9_35 rfl rfl rfl ?_
        refine zScall vr_9_36 rfl rfl rfl (fun m1734 _ => C_sort _ _ _ (nb1 h1 h2 hc).2 s2 c3) (fun v1734 h1734 u1734 q1734 => ?_) (fun E1734 h1734 u1734 q1734 => ?_)
        · obtain ⟨ff1734, z1734⟩ := q1734
          cases z1734
          show zL zrx zi _ 9 39 [(0, _), (1, _), (2, _)] [] _ _ _
          refine zSvoid vr_9_39 rfl ?_
          obtain ⟨f1, f2, f3⟩ := ff1734
          refine ⟨rfl, by rw [f1, g1732.1, g1724.1], ?_, ?_, fun x k n1 n2 n3 => ?_, fun x => ?_⟩
          · rw [f2 _ _ (by omega) (by omega), g1732.2.1, if_neg (by omega), g1724.2.1, if_pos ⟨rfl, rfl⟩]
          · rw [f2 _ _ (by omega) (by omega)]
            exact c3
          · rw [f2 _ _ (by omega) (by omega), g1732.2.1, if_neg (by omega), g1724.2.1, if_neg (by omega)]
          · rw [(f3 x).1, (f3 x).2, g1732.2.2.1, g1732.2.2.2]
            exact ⟨g1724.2.2.1 x, g1724.2.2.2 x⟩
        · obtain ⟨-, z⟩ := q1734
          cases z
      · obtain ⟨-, z⟩ := q1731
        cases z
    · cases e1718
      cases f1718
      have c1718 := ndc q1718
      refine zSvoid vr_9_10 rfl ?_
      exfalso
      have z0 : (0 : Int32).toInt = 0 := rfl
      have z24 : (24 : Int32).toInt = 24 := rfl
      first
        | (have y := c1714
           rw [i32_lt] at y
           omega)
        | (have y := c1718
           rw [i32_lt] at y
           omega)
theorem C_draft (n : Nat) (nb : Int32) (h : List zC) (u : Nat) {T : Nat → Int32} {L : Nat} {c : Int32} (h1 : 0 ≤ nb.toInt) (h2 : nb.toInt < 24) (hc : c.toInt ≤ 24) (d1 : Stc h) (t1 : gF h 183 1 = some (.int (Int32.ofNat L))) (t2 : L ≤ 60) (t3 : ∀ i, i < L → gF h 184 i = some (.int (T i))) (t4 : gF h 71 2 = some (.int c)) : zL zrx zi n 100 0 [(0, .ref 16), (1, .int nb)] [] h u (fun o h2 _ => TD T L nb c h h2 o) := by
  refine zLnew2 vr_100_0 rfl (fun k1737 u1737 g1737 => ?_)
  refine zSdup vr_100_3 rfl ?_
  have l00 : h.length < k1737.length := by
    rw [g1737.len]
    omega
  refine zScall vr_100_4 rfl rfl rfl (fun m1739 _ => C_cinit _ _ _ _ l00) (fun v1739 h1739 u1739 q1739 => ?_) (fun E1739 h1739 u1739 q1739 => ?_)
  · obtain ⟨z1739, ii1739⟩ := q1739
    cases z1739
    show zL zrx zi _ 100 7 [(0, _), (1, _)] [_] _ _ _
    have n24 := n24_of h1 h2
    have h0 := d1.1
    have l0 := g1737.len
    obtain ⟨i1, i2, ⟨ia, ib, ic, id, ie⟩, i4, i5⟩ := ii1739
    have old : ∀ x k, x < h.length → gF h1739 x k = gF h x k := fun x k hx => by
      rw [i2 x k (by omega) (by omega), g1737.ext.fld hx]
    have oldT : ∀ x, x < h.length → gT h1739 x = gT h x ∧ gN h1739 x = gN h x := fun x hx => by
      rw [(i5 x (by omega)).1, (i5 x (by omega)).2]
      exact g1737.ext.T hx
    have fq : ∀ k, k < 9 → ¬ (k = 4 ∨ k = 5 ∨ k = 7) → gF h1739 h.length k = some (.int 0) := fun k hk n => by
      rw [i2 h.length k (by omega) (by omega), g1737.fld]
      exact zDef4 k hk
    have cz : CZ h.length (h.length + 1) (h.length + 2) h1739 Fz := by
      refine ⟨fun k hk => ?_, ?_, ?_, fun k hk => ?_, fun k hk => ?_, by omega, by omega, by omega, by omega, by omega, by omega⟩
      · by_cases y5 : k = 5
        · subst y5
          exact id
        · by_cases y7 : k = 7
          · subst y7
            exact ie
          · have e : Fz k = 0 := by
              unfold Fz
              rw [if_neg y5, if_neg y7]
            rw [e]
            by_cases y4 : k = 4
            · subst y4
              exact ic
            · exact fq k hk (by omega)
      · rw [ia, l0]
      · rw [ib, l0]
      · rw [show h.length + 1 = k1737.length by omega, (i4 k hk).1]
        rcases two_k hk with z | z <;> subst z <;> rfl
      · rw [show h.length + 2 = k1737.length + 1 by omega, (i4 k hk).2]
        rcases two_k hk with z | z <;> subst z <;> rfl
    have d2 : Stc h1739 := ⟨by omega, fun e he => by rw [old _ _ (gF_lt (d1.2 e he))]; exact d1.2 e he⟩
    have l184 : 183 < h.length ∧ 184 < h.length ∧ 71 < h.length ∧ 73 + 4 * nb.toNatClampNeg < h.length := by omega
    have dz : DZ T L h.length (h.length + 1) (h.length + 2) h1739 Fz := ⟨d2, by rw [old _ _ l184.1]; exact t1, t2, fun i hi => by rw [old _ _ l184.2.1]; exact t3 i hi, cz⟩
    have d1 := d2
    refine zSastore (m := 1) (k := 2) vr_100_7 rfl rfl ?_
    show zL zrx zi _ 100 8 [(2, _), (0, _), (1, _)] [] _ _ _
    refine zSaload (m := 1) (k := 0) vr_100_8 rfl rfl rfl ?_
    refine zLget vr_100_9 rfl (fun p1742 w1742 e1742 t1742 g1742 => ?_)
    cases e1742
    first | (rw [(st_16_12 d1)] at g1742; cases g1742) | (rw [(st_16_12 d3)] at g1742; cases g1742) | (rw [(st_16_10 d4)] at g1742; cases g1742) | skip
    refine zSaload (m := 1) (k := 2) vr_100_12 rfl rfl rfl ?_
    refine zSiload (m := 1) (k := 1) vr_100_13 rfl rfl rfl (fun x1744 e1744 => ?_)
    cases e1744
    refine zScall vr_100_14 rfl rfl rfl (fun m1745 _ => C_read _ _ _ _ dz) (fun v1745 h1745 u1745 q1745 => ?_) (fun E1745 h1745 u1745 q1745 => ?_)
    · obtain ⟨fr1745, b1745, z1745, r1745⟩ := q1745
      cases z1745
      show zL zrx zi _ 100 17 [(2, _), (0, _), (1, _)] [_] _ _ _
      refine zSistore (m := 1) (k := 3) vr_100_17 rfl rfl (fun x1746 e1746 => ?_)
      cases e1746
      show zL zrx zi _ 100 18 [(3, _), (2, _), (0, _), (1, _)] [] _ _ _
      have d3 := fr1745.stc d1 (by omega) (by omega) (by omega)
      refine zSaload (m := 1) (k := 0) vr_100_18 rfl rfl rfl ?_
      refine zLget vr_100_19 rfl (fun p1748 w1748 e1748 t1748 g1748 => ?_)
      cases e1748
      first | (rw [(st_16_12 d1)] at g1748; cases g1748) | (rw [(st_16_12 d3)] at g1748; cases g1748) | (rw [(st_16_10 d4)] at g1748; cases g1748) | skip
      refine zSp0 (pc' := 23) (st' := .int (0) :: _) vr_100_22 rfl rfl ?_
      refine zLput vr_100_23 rfl (fun p1750 k1750 e1750 t1750 g1750 => ?_)
      cases e1750
      have d4 := d3.fld g1750 (by decide +kernel)
      have cc : gF k1750 71 2 = some (.int c) := by
        rw [g1750.2.1, if_neg (by omega), fr1745.2.1 _ _ (by omega) (by omega) (by omega) (by omega), old _ _ l184.2.2.1]
        exact t4
      have up : ∀ x k, x < h.length → ¬ (x = 183 ∧ (k = 1 ∨ k = 2)) → gF k1750 x k = gF h x k := fun x k hx n => by
        rw [g1750.2.1, if_neg (by omega), fr1745.2.1 x k (by omega) (by omega) (by omega) (by omega)]
        exact old x k hx
      have upT : ∀ x, x < h.length → gT k1750 x = gT h x ∧ gN k1750 x = gN h x := fun x hx => by
        rw [g1750.2.2.1, g1750.2.2.2, (fr1745.2.2 x).1, (fr1745.2.2 x).2]
        exact oldT x hx
      have lk : k1750.length = h.length + 3 := by
        rw [g1750.1, fr1745.1]
        omega
      refine zSiload (m := 1) (k := 3) vr_100_26 rfl rfl rfl (fun x1751 e1751 => ?_)
      cases e1751
      refine zSb1 (f := fun x => decide (x = 0)) (off := 12) (t := 39) vr_100_27 rfl rfl rfl (fun x1752 e1752 q1752 => ?_) (fun x1752 e1752 q1752 => ?_)
      · cases e1752
        have c1752 := of_decide_eq_true q1752
        refine zSiload (m := 1) (k := 3) vr_100_39 rfl rfl rfl (fun x1753 e1753 => ?_)
        cases e1753
        refine zLiret vr_100_40 rfl (fun x1754 e1754 => ?_)
        cases e1754
        first
          | (have e : pRead T L nb Fz = none := r1745.n c1752
             refine ⟨lk, by rw [g1750.2.1, if_pos ⟨rfl, rfl⟩], fun x k hx n1 n2 n3 n4 => up x k hx n1, upT, _, rfl, Or.inl ⟨c1752, e, up _ _ (by omega) (by omega), up _ _ (by omega) (by omega)⟩⟩)
          | (obtain ⟨y, e, d5⟩ := r1745.y c1752
             obtain ⟨p1, p2, p3, p4, p5⟩ := pt1734
             have b1 := rd1 r1745 c1752
             refine ⟨by omega, ?_, fun x k hx n1 n2 n3 n4 => ?_, fun x hx => ?_, _, rfl, Or.inr ⟨b1, y.1, y.2, e, ?_, p2, p3⟩⟩
             · rw [p4 _ _ (by omega) (by omega) (by omega), g1750.2.1, if_pos ⟨rfl, rfl⟩]
             · rw [p4 _ _ n2 n3 n4]
               exact up x k hx n1
             · rw [(p5 x).1, (p5 x).2]
               exact upT x hx
             · exact d5.2.oth (fun x k hx => by rw [p4 _ _ (by omega) (by omega) (by omega), g1750.2.1, if_neg (by omega)]))
      · cases e1752
        have c1752 := ndc q1752
        refine zSaload (m := 1) (k := 0) vr_100_30 rfl rfl rfl ?_
        refine zLget vr_100_31 rfl (fun p1756 w1756 e1756 t1756 g1756 => ?_)
        cases e1756
        first | (rw [(st_16_12 d1)] at g1756; cases g1756) | (rw [(st_16_12 d3)] at g1756; cases g1756) | (rw [(st_16_10 d4)] at g1756; cases g1756) | skip
        refine zSiload (m := 1) (k := 1) vr_100_34 rfl rfl rfl (fun x1757 e1757 => ?_)
        cases e1757
        refine zSaload (m := 1) (k := 2) vr_100_35 rfl rfl rfl ?_
        refine zScall vr_100_36 rfl rfl rfl (fun m1759 _ => C_put _ _ _ _ _ h1 h2 hc d4 cc) (fun v1759 h1759 u1759 q1759 => ?_) (fun E1759 h1759 u1759 q1759 => ?_)
        · obtain ⟨z1759, pt1759⟩ := q1759
          cases z1759
          show zL zrx zi _ 100 39 [(3, _), (2, _), (0, _), (1, _)] [] _ _ _
          refine zSiload (m := 1) (k := 3) vr_100_39 rfl rfl rfl (fun x1760 e1760 => ?_)
          cases e1760
          refine zLiret vr_100_40 rfl (fun x1761 e1761 => ?_)
          cases e1761
          first
            | (have e : pRead T L nb Fz = none := r1745.n c1752
               refine ⟨lk, by rw [g1750.2.1, if_pos ⟨rfl, rfl⟩], fun x k hx n1 n2 n3 n4 => up x k hx n1, upT, _, rfl, Or.inl ⟨c1752, e, up _ _ (by omega) (by omega), up _ _ (by omega) (by omega)⟩⟩)
            | (obtain ⟨y, e, d5⟩ := r1745.y c1752
               obtain ⟨p1, p2, p3, p4, p5⟩ := pt1759
               have b1 := rd1 r1745 c1752
               refine ⟨by omega, ?_, fun x k hx n1 n2 n3 n4 => ?_, fun x hx => ?_, _, rfl, Or.inr ⟨b1, y.1, y.2, e, ?_, p2, p3⟩⟩
               · rw [p4 _ _ (by omega) (by omega) (by omega), g1750.2.1, if_pos ⟨rfl, rfl⟩]
               · rw [p4 _ _ n2 n3 n4]
                 exact up x k hx n1
               · rw [(p5 x).1, (p5 x).2]
                 exact upT x hx
               · exact d5.2.oth (fun x k hx => by rw [p4 _ _ (by omega) (by omega) (by omega), g1750.2.1, if_neg (by omega)]))
        · obtain ⟨z, -⟩ := q1759
          cases z
    · obtain ⟨-, _, z, -⟩ := q1745
      cases z
  · obtain ⟨z, -⟩ := q1739
    cases z

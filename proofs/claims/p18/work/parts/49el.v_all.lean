/-! ===== values: all, 9 ===== -/
theorem vr_19_0 : zrx 19 0 = some (.iconst (-1), 0, 0) := by decide +kernel
theorem vr_19_1 : zrx 19 1 = some (.istore 4, 0, 0) := by decide +kernel
theorem vr_19_3 : zrx 19 3 = some (.iconst 0, 0, 0) := by decide +kernel
theorem vr_19_4 : zrx 19 4 = some (.istore 5, 0, 0) := by decide +kernel
theorem vr_19_6 : zrx 19 6 = some (.iconst 0, 0, 0) := by decide +kernel
theorem vr_19_7 : zrx 19 7 = some (.istore 6, 0, 0) := by decide +kernel
theorem vr_19_9 : zrx 19 9 = some (.iload 6, 0, 0) := by decide +kernel
theorem vr_19_11 : zrx 19 11 = some (.aload_n 0, 0, 0) := by decide +kernel
theorem vr_19_12 : zrx 19 12 = some (.getfield 22, 6, 2) := by decide +kernel
theorem vr_19_15 : zrx 19 15 = some (.if_icmp .ge 91, 0, 0) := by decide +kernel
theorem vr_19_18 : zrx 19 18 = some (.aload_n 0, 0, 0) := by decide +kernel
theorem vr_19_19 : zrx 19 19 = some (.getfield 11, 6, 0) := by decide +kernel
theorem vr_19_22 : zrx 19 22 = some (.iload 6, 0, 0) := by decide +kernel
theorem vr_19_24 : zrx 19 24 = some (.aaload, 0, 0) := by decide +kernel
theorem vr_19_25 : zrx 19 25 = some (.astore 7, 0, 0) := by decide +kernel
theorem vr_19_27 : zrx 19 27 = some (.aload 7, 0, 0) := by decide +kernel
theorem vr_19_29 : zrx 19 29 = some (.getfield 26, 12, 0) := by decide +kernel
theorem vr_19_32 : zrx 19 32 = some (.iload_n 1, 0, 0) := by decide +kernel
theorem vr_19_33 : zrx 19 33 = some (.if_icmp .ne 67, 0, 0) := by decide +kernel
theorem vr_19_36 : zrx 19 36 = some (.aload 7, 0, 0) := by decide +kernel
theorem vr_19_38 : zrx 19 38 = some (.aload_n 2, 0, 0) := by decide +kernel
theorem vr_19_39 : zrx 19 39 = some (.iload_n 3, 0, 0) := by decide +kernel
theorem vr_19_40 : zrx 19 40 = some (.invokevirtual 29, 55, 130) := by decide +kernel
theorem vr_19_43 : zrx 19 43 = some (.ifCond .ne 6, 0, 0) := by decide +kernel
theorem vr_19_46 : zrx 19 46 = some (.goto 54, 0, 0) := by decide +kernel
theorem vr_19_49 : zrx 19 49 = some (.aload 7, 0, 0) := by decide +kernel
theorem vr_19_51 : zrx 19 51 = some (.getfield 33, 12, 10) := by decide +kernel
theorem vr_19_54 : zrx 19 54 = some (.iload 5, 0, 0) := by decide +kernel
theorem vr_19_56 : zrx 19 56 = some (.if_icmp .le 20, 0, 0) := by decide +kernel
theorem vr_19_59 : zrx 19 59 = some (.aload 7, 0, 0) := by decide +kernel
theorem vr_19_61 : zrx 19 61 = some (.getfield 33, 12, 10) := by decide +kernel
theorem vr_19_64 : zrx 19 64 = some (.istore 5, 0, 0) := by decide +kernel
theorem vr_19_66 : zrx 19 66 = some (.aload 7, 0, 0) := by decide +kernel
theorem vr_19_68 : zrx 19 68 = some (.getfield 36, 12, 5) := by decide +kernel
theorem vr_19_71 : zrx 19 71 = some (.istore 4, 0, 0) := by decide +kernel
theorem vr_19_73 : zrx 19 73 = some (.goto 27, 0, 0) := by decide +kernel
theorem vr_19_76 : zrx 19 76 = some (.aload 7, 0, 0) := by decide +kernel
theorem vr_19_78 : zrx 19 78 = some (.getfield 33, 12, 10) := by decide +kernel
theorem vr_19_81 : zrx 19 81 = some (.iload 5, 0, 0) := by decide +kernel
theorem vr_19_83 : zrx 19 83 = some (.if_icmp .ne 17, 0, 0) := by decide +kernel
theorem vr_19_86 : zrx 19 86 = some (.iload 4, 0, 0) := by decide +kernel
theorem vr_19_88 : zrx 19 88 = some (.aload 7, 0, 0) := by decide +kernel
theorem vr_19_90 : zrx 19 90 = some (.getfield 36, 12, 5) := by decide +kernel
theorem vr_19_93 : zrx 19 93 = some (.if_icmp .eq 7, 0, 0) := by decide +kernel
theorem vr_19_96 : zrx 19 96 = some (.bipush (-2), 0, 0) := by decide +kernel
theorem vr_19_98 : zrx 19 98 = some (.istore 4, 0, 0) := by decide +kernel
theorem vr_19_100 : zrx 19 100 = some (.iinc 6 1, 0, 0) := by decide +kernel
theorem vr_19_103 : zrx 19 103 = some (.goto (-94), 0, 0) := by decide +kernel
theorem vr_19_106 : zrx 19 106 = some (.iload 4, 0, 0) := by decide +kernel
theorem vr_19_108 : zrx 19 108 = some (.ireturn, 0, 0) := by decide +kernel
theorem vr_55_0 : zrx 55 0 = some (.aload_n 1, 0, 0) := by decide +kernel
theorem vr_55_1 : zrx 55 1 = some (.getfield 18, 7, 3) := by decide +kernel
theorem vr_55_4 : zrx 55 4 = some (.aload_n 0, 0, 0) := by decide +kernel
theorem vr_55_5 : zrx 55 5 = some (.getfield 23, 12, 1) := by decide +kernel
theorem vr_55_8 : zrx 55 8 = some (.if_icmp .ne 80, 0, 0) := by decide +kernel
theorem vr_55_11 : zrx 55 11 = some (.aload_n 0, 0, 0) := by decide +kernel
theorem vr_55_12 : zrx 55 12 = some (.getfield 24, 12, 2) := by decide +kernel
theorem vr_55_15 : zrx 55 15 = some (.aload_n 1, 0, 0) := by decide +kernel
theorem vr_55_16 : zrx 55 16 = some (.getfield 27, 7, 2) := by decide +kernel
theorem vr_55_19 : zrx 55 19 = some (.ishr, 0, 0) := by decide +kernel
theorem vr_55_20 : zrx 55 20 = some (.iconst 1, 0, 0) := by decide +kernel
theorem vr_55_21 : zrx 55 21 = some (.iand, 0, 0) := by decide +kernel
theorem vr_55_22 : zrx 55 22 = some (.iconst 1, 0, 0) := by decide +kernel
theorem vr_55_23 : zrx 55 23 = some (.if_icmp .ne 65, 0, 0) := by decide +kernel
theorem vr_55_26 : zrx 55 26 = some (.aload_n 1, 0, 0) := by decide +kernel
theorem vr_55_27 : zrx 55 27 = some (.getfield 30, 7, 4) := by decide +kernel
theorem vr_55_30 : zrx 55 30 = some (.aload_n 0, 0, 0) := by decide +kernel
theorem vr_55_31 : zrx 55 31 = some (.getfield 33, 12, 3) := by decide +kernel
theorem vr_55_34 : zrx 55 34 = some (.iand, 0, 0) := by decide +kernel
theorem vr_55_35 : zrx 55 35 = some (.aload_n 0, 0, 0) := by decide +kernel
theorem vr_55_36 : zrx 55 36 = some (.getfield 33, 12, 3) := by decide +kernel
theorem vr_55_39 : zrx 55 39 = some (.if_icmp .ne 49, 0, 0) := by decide +kernel
theorem vr_55_42 : zrx 55 42 = some (.aload_n 1, 0, 0) := by decide +kernel
theorem vr_55_43 : zrx 55 43 = some (.getfield 30, 7, 4) := by decide +kernel
theorem vr_55_46 : zrx 55 46 = some (.aload_n 0, 0, 0) := by decide +kernel
theorem vr_55_47 : zrx 55 47 = some (.getfield 36, 12, 4) := by decide +kernel
theorem vr_55_50 : zrx 55 50 = some (.iand, 0, 0) := by decide +kernel
theorem vr_55_51 : zrx 55 51 = some (.ifCond .ne 37, 0, 0) := by decide +kernel
theorem vr_55_54 : zrx 55 54 = some (.aload_n 1, 0, 0) := by decide +kernel
theorem vr_55_55 : zrx 55 55 = some (.getfield 39, 7, 5) := by decide +kernel
theorem vr_55_58 : zrx 55 58 = some (.aload_n 0, 0, 0) := by decide +kernel
theorem vr_55_59 : zrx 55 59 = some (.getfield 9, 12, 7) := by decide +kernel
theorem vr_55_62 : zrx 55 62 = some (.if_icmp .lt 26, 0, 0) := by decide +kernel
theorem vr_55_65 : zrx 55 65 = some (.aload_n 1, 0, 0) := by decide +kernel
theorem vr_55_66 : zrx 55 66 = some (.getfield 39, 7, 5) := by decide +kernel
theorem vr_55_69 : zrx 55 69 = some (.aload_n 0, 0, 0) := by decide +kernel
theorem vr_55_70 : zrx 55 70 = some (.getfield 15, 12, 8) := by decide +kernel
theorem vr_55_73 : zrx 55 73 = some (.if_icmp .gt 15, 0, 0) := by decide +kernel
theorem vr_55_76 : zrx 55 76 = some (.iload_n 2, 0, 0) := by decide +kernel
theorem vr_55_77 : zrx 55 77 = some (.aload_n 0, 0, 0) := by decide +kernel
theorem vr_55_78 : zrx 55 78 = some (.getfield 42, 12, 9) := by decide +kernel
theorem vr_55_81 : zrx 55 81 = some (.if_icmp .lt 7, 0, 0) := by decide +kernel
theorem vr_55_84 : zrx 55 84 = some (.iconst 1, 0, 0) := by decide +kernel
theorem vr_55_85 : zrx 55 85 = some (.goto 4, 0, 0) := by decide +kernel
theorem vr_55_88 : zrx 55 88 = some (.iconst 0, 0, 0) := by decide +kernel
theorem vr_55_89 : zrx 55 89 = some (.ireturn, 0, 0) := by decide +kernel
theorem vr_62_0 : zrx 62 0 = some (.iload_n 1, 0, 0) := by decide +kernel
theorem vr_62_1 : zrx 62 1 = some (.bipush 6, 0, 0) := by decide +kernel
theorem vr_62_3 : zrx 62 3 = some (.invokestatic 68, 96, 0) := by decide +kernel
theorem vr_62_6 : zrx 62 6 = some (.iload_n 2, 0, 0) := by decide +kernel
theorem vr_62_7 : zrx 62 7 = some (.bipush 6, 0, 0) := by decide +kernel
theorem vr_62_9 : zrx 62 9 = some (.invokestatic 68, 96, 0) := by decide +kernel
theorem vr_62_12 : zrx 62 12 = some (.iload_n 3, 0, 0) := by decide +kernel
theorem vr_62_13 : zrx 62 13 = some (.iconst 4, 0, 0) := by decide +kernel
theorem vr_62_14 : zrx 62 14 = some (.invokestatic 68, 96, 0) := by decide +kernel
theorem vr_62_17 : zrx 62 17 = some (.iload 4, 0, 0) := by decide +kernel
theorem vr_62_19 : zrx 62 19 = some (.iconst 4, 0, 0) := by decide +kernel
theorem vr_62_20 : zrx 62 20 = some (.invokestatic 68, 96, 0) := by decide +kernel
theorem vr_62_23 : zrx 62 23 = some (.iload 5, 0, 0) := by decide +kernel
theorem vr_62_25 : zrx 62 25 = some (.iconst 0, 0, 0) := by decide +kernel
theorem vr_62_26 : zrx 62 26 = some (.bipush 63, 0, 0) := by decide +kernel
theorem vr_62_28 : zrx 62 28 = some (.invokestatic 72, 97, 0) := by decide +kernel
theorem vr_62_31 : zrx 62 31 = some (.iload 6, 0, 0) := by decide +kernel
theorem vr_62_33 : zrx 62 33 = some (.iconst 0, 0, 0) := by decide +kernel
theorem vr_62_34 : zrx 62 34 = some (.sipush 999, 0, 0) := by decide +kernel
theorem vr_62_37 : zrx 62 37 = some (.invokestatic 72, 97, 0) := by decide +kernel
theorem vr_62_40 : zrx 62 40 = some (.iload 7, 0, 0) := by decide +kernel
theorem vr_62_42 : zrx 62 42 = some (.iconst 0, 0, 0) := by decide +kernel
theorem vr_62_43 : zrx 62 43 = some (.aload_n 0, 0, 0) := by decide +kernel
theorem vr_62_44 : zrx 62 44 = some (.getfield 123, 13, 0) := by decide +kernel
theorem vr_62_47 : zrx 62 47 = some (.invokestatic 72, 97, 0) := by decide +kernel
theorem vr_62_50 : zrx 62 50 = some (.aload_n 0, 0, 0) := by decide +kernel
theorem vr_62_51 : zrx 62 51 = some (.getfield 135, 13, 3) := by decide +kernel
theorem vr_62_54 : zrx 62 54 = some (.bipush 24, 0, 0) := by decide +kernel
theorem vr_62_56 : zrx 62 56 = some (.if_icmp .ge 7, 0, 0) := by decide +kernel
theorem vr_62_59 : zrx 62 59 = some (.iconst 1, 0, 0) := by decide +kernel
theorem vr_62_60 : zrx 62 60 = some (.goto 4, 0, 0) := by decide +kernel
theorem vr_62_63 : zrx 62 63 = some (.iconst 0, 0, 0) := by decide +kernel
theorem vr_62_64 : zrx 62 64 = some (.invokestatic 83, 98, 0) := by decide +kernel
theorem vr_62_67 : zrx 62 67 = some (.aload_n 0, 0, 0) := by decide +kernel
theorem vr_62_68 : zrx 62 68 = some (.getfield 26, 13, 8) := by decide +kernel
theorem vr_62_71 : zrx 62 71 = some (.aload_n 0, 0, 0) := by decide +kernel
theorem vr_62_72 : zrx 62 72 = some (.getfield 135, 13, 3) := by decide +kernel
theorem vr_62_75 : zrx 62 75 = some (.aaload, 0, 0) := by decide +kernel
theorem vr_62_76 : zrx 62 76 = some (.astore 8, 0, 0) := by decide +kernel
theorem vr_62_78 : zrx 62 78 = some (.aload 8, 0, 0) := by decide +kernel
theorem vr_62_80 : zrx 62 80 = some (.iload_n 1, 0, 0) := by decide +kernel
theorem vr_62_81 : zrx 62 81 = some (.putfield 138, 7, 0) := by decide +kernel
theorem vr_62_84 : zrx 62 84 = some (.aload 8, 0, 0) := by decide +kernel
theorem vr_62_86 : zrx 62 86 = some (.iload_n 2, 0, 0) := by decide +kernel
theorem vr_62_87 : zrx 62 87 = some (.putfield 141, 7, 1) := by decide +kernel
theorem vr_62_90 : zrx 62 90 = some (.aload 8, 0, 0) := by decide +kernel
theorem vr_62_92 : zrx 62 92 = some (.iload_n 3, 0, 0) := by decide +kernel
theorem vr_62_93 : zrx 62 93 = some (.putfield 144, 7, 2) := by decide +kernel
theorem vr_62_96 : zrx 62 96 = some (.aload 8, 0, 0) := by decide +kernel
theorem vr_62_98 : zrx 62 98 = some (.iload 4, 0, 0) := by decide +kernel
theorem vr_62_100 : zrx 62 100 = some (.putfield 147, 7, 3) := by decide +kernel
theorem vr_62_103 : zrx 62 103 = some (.aload 8, 0, 0) := by decide +kernel
theorem vr_62_105 : zrx 62 105 = some (.aload_n 0, 0, 0) := by decide +kernel
theorem vr_62_106 : zrx 62 106 = some (.iload_n 1, 0, 0) := by decide +kernel
theorem vr_62_107 : zrx 62 107 = some (.iload 5, 0, 0) := by decide +kernel
theorem vr_62_109 : zrx 62 109 = some (.invokevirtual 148, 99, 140) := by decide +kernel
theorem vr_62_112 : zrx 62 112 = some (.putfield 152, 7, 4) := by decide +kernel
theorem vr_62_115 : zrx 62 115 = some (.aload 8, 0, 0) := by decide +kernel
theorem vr_62_117 : zrx 62 117 = some (.iload 6, 0, 0) := by decide +kernel
theorem vr_62_119 : zrx 62 119 = some (.putfield 155, 7, 5) := by decide +kernel
theorem vr_62_122 : zrx 62 122 = some (.aload 8, 0, 0) := by decide +kernel
theorem vr_62_124 : zrx 62 124 = some (.aload_n 0, 0, 0) := by decide +kernel
theorem vr_62_125 : zrx 62 125 = some (.getfield 123, 13, 0) := by decide +kernel
theorem vr_62_128 : zrx 62 128 = some (.iload 7, 0, 0) := by decide +kernel
theorem vr_62_130 : zrx 62 130 = some (.isub, 0, 0) := by decide +kernel
theorem vr_62_131 : zrx 62 131 = some (.putfield 158, 7, 6) := by decide +kernel
theorem vr_62_134 : zrx 62 134 = some (.aload_n 0, 0, 0) := by decide +kernel
theorem vr_62_135 : zrx 62 135 = some (.dup, 0, 0) := by decide +kernel
theorem vr_62_136 : zrx 62 136 = some (.getfield 135, 13, 3) := by decide +kernel
theorem vr_62_139 : zrx 62 139 = some (.iconst 1, 0, 0) := by decide +kernel
theorem vr_62_140 : zrx 62 140 = some (.iadd, 0, 0) := by decide +kernel
theorem vr_62_141 : zrx 62 141 = some (.putfield 135, 13, 3) := by decide +kernel
theorem vr_62_144 : zrx 62 144 = some (.aload_n 0, 0, 0) := by decide +kernel
theorem vr_62_145 : zrx 62 145 = some (.getfield 135, 13, 3) := by decide +kernel
theorem vr_62_148 : zrx 62 148 = some (.iconst 1, 0, 0) := by decide +kernel
theorem vr_62_149 : zrx 62 149 = some (.isub, 0, 0) := by decide +kernel
theorem vr_62_150 : zrx 62 150 = some (.ireturn, 0, 0) := by decide +kernel
theorem vr_99_0 : zrx 99 0 = some (.iconst 0, 0, 0) := by decide +kernel
theorem vr_99_1 : zrx 99 1 = some (.istore_n 3, 0, 0) := by decide +kernel
theorem vr_99_2 : zrx 99 2 = some (.iconst 0, 0, 0) := by decide +kernel
theorem vr_99_3 : zrx 99 3 = some (.istore 4, 0, 0) := by decide +kernel
theorem vr_99_5 : zrx 99 5 = some (.iload 4, 0, 0) := by decide +kernel
theorem vr_99_7 : zrx 99 7 = some (.bipush 6, 0, 0) := by decide +kernel
theorem vr_99_9 : zrx 99 9 = some (.if_icmp .ge 33, 0, 0) := by decide +kernel
theorem vr_99_12 : zrx 99 12 = some (.iload_n 2, 0, 0) := by decide +kernel
theorem vr_99_13 : zrx 99 13 = some (.iload 4, 0, 0) := by decide +kernel
theorem vr_99_15 : zrx 99 15 = some (.ishr, 0, 0) := by decide +kernel
theorem vr_99_16 : zrx 99 16 = some (.iconst 1, 0, 0) := by decide +kernel
theorem vr_99_17 : zrx 99 17 = some (.iand, 0, 0) := by decide +kernel
theorem vr_99_18 : zrx 99 18 = some (.iconst 1, 0, 0) := by decide +kernel
theorem vr_99_19 : zrx 99 19 = some (.if_icmp .ne 17, 0, 0) := by decide +kernel
theorem vr_99_22 : zrx 99 22 = some (.iload_n 3, 0, 0) := by decide +kernel
theorem vr_99_23 : zrx 99 23 = some (.iconst 1, 0, 0) := by decide +kernel
theorem vr_99_24 : zrx 99 24 = some (.aload_n 0, 0, 0) := by decide +kernel
theorem vr_99_25 : zrx 99 25 = some (.getfield 15, 13, 5) := by decide +kernel
theorem vr_99_28 : zrx 99 28 = some (.iload_n 1, 0, 0) := by decide +kernel
theorem vr_99_29 : zrx 99 29 = some (.aaload, 0, 0) := by decide +kernel
theorem vr_99_30 : zrx 99 30 = some (.iload 4, 0, 0) := by decide +kernel
theorem vr_99_32 : zrx 99 32 = some (.iaload, 0, 0) := by decide +kernel
theorem vr_99_33 : zrx 99 33 = some (.ishl, 0, 0) := by decide +kernel
theorem vr_99_34 : zrx 99 34 = some (.ior, 0, 0) := by decide +kernel
theorem vr_99_35 : zrx 99 35 = some (.istore_n 3, 0, 0) := by decide +kernel
theorem vr_99_36 : zrx 99 36 = some (.iinc 4 1, 0, 0) := by decide +kernel
theorem vr_99_39 : zrx 99 39 = some (.goto (-34), 0, 0) := by decide +kernel
theorem vr_99_42 : zrx 99 42 = some (.iload_n 3, 0, 0) := by decide +kernel
theorem vr_99_43 : zrx 99 43 = some (.ireturn, 0, 0) := by decide +kernel
theorem vr_124_0 : zrx 124 0 = some (.aload_n 0, 0, 0) := by decide +kernel
theorem vr_124_1 : zrx 124 1 = some (.invokespecial 3, 0, 6) := by decide +kernel
theorem vr_124_4 : zrx 124 4 = some (.aload_n 0, 0, 0) := by decide +kernel
theorem vr_124_5 : zrx 124 5 = some (.iconst (-1), 0, 0) := by decide +kernel
theorem vr_124_6 : zrx 124 6 = some (.putfield 9, 16, 7) := by decide +kernel
theorem vr_124_9 : zrx 124 9 = some (.aload_n 0, 0, 0) := by decide +kernel
theorem vr_124_10 : zrx 124 10 = some (.iconst (-1), 0, 0) := by decide +kernel
theorem vr_124_11 : zrx 124 11 = some (.putfield 15, 16, 8) := by decide +kernel
theorem vr_124_14 : zrx 124 14 = some (.aload_n 0, 0, 0) := by decide +kernel
theorem vr_124_15 : zrx 124 15 = some (.iload_n 1, 0, 0) := by decide +kernel
theorem vr_124_16 : zrx 124 16 = some (.putfield 18, 16, 0) := by decide +kernel
theorem vr_124_19 : zrx 124 19 = some (.aload_n 0, 0, 0) := by decide +kernel
theorem vr_124_20 : zrx 124 20 = some (.iload_n 2, 0, 0) := by decide +kernel
theorem vr_124_21 : zrx 124 21 = some (.putfield 21, 16, 1) := by decide +kernel
theorem vr_124_24 : zrx 124 24 = some (.aload_n 0, 0, 0) := by decide +kernel
theorem vr_124_25 : zrx 124 25 = some (.iload_n 3, 0, 0) := by decide +kernel
theorem vr_124_26 : zrx 124 26 = some (.putfield 24, 16, 2) := by decide +kernel
theorem vr_124_29 : zrx 124 29 = some (.aload_n 0, 0, 0) := by decide +kernel
theorem vr_124_30 : zrx 124 30 = some (.iload 4, 0, 0) := by decide +kernel
theorem vr_124_32 : zrx 124 32 = some (.putfield 27, 16, 3) := by decide +kernel
theorem vr_124_35 : zrx 124 35 = some (.aload_n 0, 0, 0) := by decide +kernel
theorem vr_124_36 : zrx 124 36 = some (.iload 5, 0, 0) := by decide +kernel
theorem vr_124_38 : zrx 124 38 = some (.putfield 30, 16, 4) := by decide +kernel
theorem vr_124_41 : zrx 124 41 = some (.aload_n 0, 0, 0) := by decide +kernel
theorem vr_124_42 : zrx 124 42 = some (.iload 6, 0, 0) := by decide +kernel
theorem vr_124_44 : zrx 124 44 = some (.putfield 33, 16, 5) := by decide +kernel
theorem vr_124_47 : zrx 124 47 = some (.aload_n 0, 0, 0) := by decide +kernel
theorem vr_124_48 : zrx 124 48 = some (.iload 7, 0, 0) := by decide +kernel
theorem vr_124_50 : zrx 124 50 = some (.putfield 36, 16, 6) := by decide +kernel
theorem vr_124_53 : zrx 124 53 = some (.return_, 0, 0) := by decide +kernel
theorem vr_128_0 : zrx 128 0 = some (.aload_n 1, 0, 0) := by decide +kernel
theorem vr_128_1 : zrx 128 1 = some (.getfield 43, 16, 3) := by decide +kernel
theorem vr_128_4 : zrx 128 4 = some (.aload_n 0, 0, 0) := by decide +kernel
theorem vr_128_5 : zrx 128 5 = some (.getfield 16, 17, 1) := by decide +kernel
theorem vr_128_8 : zrx 128 8 = some (.if_icmp .ne 78, 0, 0) := by decide +kernel
theorem vr_128_11 : zrx 128 11 = some (.aload_n 0, 0, 0) := by decide +kernel
theorem vr_128_12 : zrx 128 12 = some (.getfield 19, 17, 2) := by decide +kernel
theorem vr_128_15 : zrx 128 15 = some (.aload_n 1, 0, 0) := by decide +kernel
theorem vr_128_16 : zrx 128 16 = some (.getfield 46, 16, 2) := by decide +kernel
theorem vr_128_19 : zrx 128 19 = some (.invokestatic 49, 133, 1) := by decide +kernel
theorem vr_128_22 : zrx 128 22 = some (.ifCond .eq 64, 0, 0) := by decide +kernel
theorem vr_128_25 : zrx 128 25 = some (.aload_n 1, 0, 0) := by decide +kernel
theorem vr_128_26 : zrx 128 26 = some (.getfield 53, 16, 4) := by decide +kernel
theorem vr_128_29 : zrx 128 29 = some (.aload_n 0, 0, 0) := by decide +kernel
theorem vr_128_30 : zrx 128 30 = some (.getfield 22, 17, 3) := by decide +kernel
theorem vr_128_33 : zrx 128 33 = some (.iand, 0, 0) := by decide +kernel
theorem vr_128_34 : zrx 128 34 = some (.aload_n 0, 0, 0) := by decide +kernel
theorem vr_128_35 : zrx 128 35 = some (.getfield 22, 17, 3) := by decide +kernel
theorem vr_128_38 : zrx 128 38 = some (.if_icmp .ne 48, 0, 0) := by decide +kernel
theorem vr_128_41 : zrx 128 41 = some (.aload_n 1, 0, 0) := by decide +kernel
theorem vr_128_42 : zrx 128 42 = some (.getfield 53, 16, 4) := by decide +kernel
theorem vr_128_45 : zrx 128 45 = some (.aload_n 0, 0, 0) := by decide +kernel
theorem vr_128_46 : zrx 128 46 = some (.getfield 25, 17, 4) := by decide +kernel
theorem vr_128_49 : zrx 128 49 = some (.iand, 0, 0) := by decide +kernel
theorem vr_128_50 : zrx 128 50 = some (.ifCond .ne 36, 0, 0) := by decide +kernel
theorem vr_128_53 : zrx 128 53 = some (.aload_n 1, 0, 0) := by decide +kernel
theorem vr_128_54 : zrx 128 54 = some (.getfield 56, 16, 5) := by decide +kernel
theorem vr_128_57 : zrx 128 57 = some (.aload_n 0, 0, 0) := by decide +kernel
theorem vr_128_58 : zrx 128 58 = some (.getfield 59, 17, 8) := by decide +kernel
theorem vr_128_61 : zrx 128 61 = some (.aload_n 0, 0, 0) := by decide +kernel
theorem vr_128_62 : zrx 128 62 = some (.getfield 7, 17, 9) := by decide +kernel
theorem vr_128_65 : zrx 128 65 = some (.invokestatic 62, 132, 1) := by decide +kernel
theorem vr_128_68 : zrx 128 68 = some (.ifCond .eq 18, 0, 0) := by decide +kernel
theorem vr_128_71 : zrx 128 71 = some (.aload_n 1, 0, 0) := by decide +kernel
theorem vr_128_72 : zrx 128 72 = some (.getfield 66, 16, 6) := by decide +kernel
theorem vr_128_75 : zrx 128 75 = some (.aload_n 0, 0, 0) := by decide +kernel
theorem vr_128_76 : zrx 128 76 = some (.getfield 34, 17, 7) := by decide +kernel
theorem vr_128_79 : zrx 128 79 = some (.if_icmp .lt 7, 0, 0) := by decide +kernel
theorem vr_128_82 : zrx 128 82 = some (.iconst 1, 0, 0) := by decide +kernel
theorem vr_128_83 : zrx 128 83 = some (.goto 4, 0, 0) := by decide +kernel
theorem vr_128_86 : zrx 128 86 = some (.iconst 0, 0, 0) := by decide +kernel
theorem vr_128_87 : zrx 128 87 = some (.ireturn, 0, 0) := by decide +kernel
theorem vr_133_0 : zrx 133 0 = some (.iload_n 0, 0, 0) := by decide +kernel
theorem vr_133_1 : zrx 133 1 = some (.iload_n 1, 0, 0) := by decide +kernel
theorem vr_133_2 : zrx 133 2 = some (.ishr, 0, 0) := by decide +kernel
theorem vr_133_3 : zrx 133 3 = some (.iconst 1, 0, 0) := by decide +kernel
theorem vr_133_4 : zrx 133 4 = some (.iand, 0, 0) := by decide +kernel
theorem vr_133_5 : zrx 133 5 = some (.iconst 1, 0, 0) := by decide +kernel
theorem vr_133_6 : zrx 133 6 = some (.if_icmp .ne 7, 0, 0) := by decide +kernel
theorem vr_133_9 : zrx 133 9 = some (.iconst 1, 0, 0) := by decide +kernel
theorem vr_133_10 : zrx 133 10 = some (.goto 4, 0, 0) := by decide +kernel
theorem vr_133_13 : zrx 133 13 = some (.iconst 0, 0, 0) := by decide +kernel
theorem vr_133_14 : zrx 133 14 = some (.ireturn, 0, 0) := by decide +kernel
theorem vr_135_0 : zrx 135 0 = some (.iconst (-1), 0, 0) := by decide +kernel
theorem vr_135_1 : zrx 135 1 = some (.istore_n 3, 0, 0) := by decide +kernel
theorem vr_135_2 : zrx 135 2 = some (.iconst (-1), 0, 0) := by decide +kernel
theorem vr_135_3 : zrx 135 3 = some (.istore 4, 0, 0) := by decide +kernel
theorem vr_135_5 : zrx 135 5 = some (.iconst 0, 0, 0) := by decide +kernel
theorem vr_135_6 : zrx 135 6 = some (.istore 5, 0, 0) := by decide +kernel
theorem vr_135_8 : zrx 135 8 = some (.iload 5, 0, 0) := by decide +kernel
theorem vr_135_10 : zrx 135 10 = some (.aload_n 0, 0, 0) := by decide +kernel
theorem vr_135_11 : zrx 135 11 = some (.getfield 24, 18, 7) := by decide +kernel
theorem vr_135_14 : zrx 135 14 = some (.invokeinterface 59 1, 304, 35) := by decide +kernel
theorem vr_135_19 : zrx 135 19 = some (.if_icmp .ge 92, 0, 0) := by decide +kernel
theorem vr_135_22 : zrx 135 22 = some (.aload_n 0, 0, 0) := by decide +kernel
theorem vr_135_23 : zrx 135 23 = some (.getfield 24, 18, 7) := by decide +kernel
theorem vr_135_26 : zrx 135 26 = some (.iload 5, 0, 0) := by decide +kernel
theorem vr_135_28 : zrx 135 28 = some (.invokeinterface 65 2, 306, 35) := by decide +kernel
theorem vr_135_33 : zrx 135 33 = some (.checkcast 69, 17, 0) := by decide +kernel
theorem vr_135_36 : zrx 135 36 = some (.astore 6, 0, 0) := by decide +kernel
theorem vr_135_38 : zrx 135 38 = some (.aload 6, 0, 0) := by decide +kernel
theorem vr_135_40 : zrx 135 40 = some (.getfield 71, 17, 0) := by decide +kernel
theorem vr_135_43 : zrx 135 43 = some (.iload_n 1, 0, 0) := by decide +kernel
theorem vr_135_44 : zrx 135 44 = some (.if_icmp .ne 61, 0, 0) := by decide +kernel
theorem vr_135_47 : zrx 135 47 = some (.aload 6, 0, 0) := by decide +kernel
theorem vr_135_49 : zrx 135 49 = some (.aload_n 2, 0, 0) := by decide +kernel
theorem vr_135_50 : zrx 135 50 = some (.invokevirtual 74, 128, 180) := by decide +kernel
theorem vr_135_53 : zrx 135 53 = some (.ifCond .eq 52, 0, 0) := by decide +kernel
theorem vr_135_56 : zrx 135 56 = some (.aload 6, 0, 0) := by decide +kernel
theorem vr_135_58 : zrx 135 58 = some (.invokevirtual 78, 127, 180) := by decide +kernel
theorem vr_135_61 : zrx 135 61 = some (.iload_n 3, 0, 0) := by decide +kernel
theorem vr_135_62 : zrx 135 62 = some (.if_icmp .ge 6, 0, 0) := by decide +kernel
theorem vr_135_65 : zrx 135 65 = some (.goto 40, 0, 0) := by decide +kernel
theorem vr_135_68 : zrx 135 68 = some (.aload 6, 0, 0) := by decide +kernel
theorem vr_135_70 : zrx 135 70 = some (.invokevirtual 78, 127, 180) := by decide +kernel
theorem vr_135_73 : zrx 135 73 = some (.iload_n 3, 0, 0) := by decide +kernel
theorem vr_135_74 : zrx 135 74 = some (.if_icmp .gt 13, 0, 0) := by decide +kernel
theorem vr_135_77 : zrx 135 77 = some (.iload 4, 0, 0) := by decide +kernel
theorem vr_135_79 : zrx 135 79 = some (.aload 6, 0, 0) := by decide +kernel
theorem vr_135_81 : zrx 135 81 = some (.getfield 81, 17, 5) := by decide +kernel
theorem vr_135_84 : zrx 135 84 = some (.if_icmp .ne 11, 0, 0) := by decide +kernel
theorem vr_135_87 : zrx 135 87 = some (.aload 6, 0, 0) := by decide +kernel
theorem vr_135_89 : zrx 135 89 = some (.getfield 81, 17, 5) := by decide +kernel
theorem vr_135_92 : zrx 135 92 = some (.goto 5, 0, 0) := by decide +kernel
theorem vr_135_95 : zrx 135 95 = some (.bipush (-2), 0, 0) := by decide +kernel
theorem vr_135_97 : zrx 135 97 = some (.istore 4, 0, 0) := by decide +kernel
theorem vr_135_99 : zrx 135 99 = some (.aload 6, 0, 0) := by decide +kernel
theorem vr_135_101 : zrx 135 101 = some (.invokevirtual 78, 127, 180) := by decide +kernel
theorem vr_135_104 : zrx 135 104 = some (.istore_n 3, 0, 0) := by decide +kernel
theorem vr_135_105 : zrx 135 105 = some (.iinc 5 1, 0, 0) := by decide +kernel
theorem vr_135_108 : zrx 135 108 = some (.goto (-100), 0, 0) := by decide +kernel
theorem vr_135_111 : zrx 135 111 = some (.iload 4, 0, 0) := by decide +kernel
theorem vr_135_113 : zrx 135 113 = some (.ireturn, 0, 0) := by decide +kernel
theorem vr_156_0 : zrx 156 0 = some (.aload_n 0, 0, 0) := by decide +kernel
theorem vr_156_1 : zrx 156 1 = some (.iconst 0, 0, 0) := by decide +kernel
theorem vr_156_2 : zrx 156 2 = some (.putfield 55, 18, 0) := by decide +kernel
theorem vr_156_5 : zrx 156 5 = some (.iload_n 1, 0, 0) := by decide +kernel
theorem vr_156_6 : zrx 156 6 = some (.iconst 0, 0, 0) := by decide +kernel
theorem vr_156_7 : zrx 156 7 = some (.iconst 5, 0, 0) := by decide +kernel
theorem vr_156_8 : zrx 156 8 = some (.invokestatic 209, 132, 0) := by decide +kernel
theorem vr_156_11 : zrx 156 11 = some (.ifCond .eq 31, 0, 0) := by decide +kernel
theorem vr_156_14 : zrx 156 14 = some (.iload_n 2, 0, 0) := by decide +kernel
theorem vr_156_15 : zrx 156 15 = some (.iconst 0, 0, 0) := by decide +kernel
theorem vr_156_16 : zrx 156 16 = some (.iconst 5, 0, 0) := by decide +kernel
theorem vr_156_17 : zrx 156 17 = some (.invokestatic 209, 132, 0) := by decide +kernel
theorem vr_156_20 : zrx 156 20 = some (.ifCond .eq 22, 0, 0) := by decide +kernel
theorem vr_156_23 : zrx 156 23 = some (.iload_n 3, 0, 0) := by decide +kernel
theorem vr_156_24 : zrx 156 24 = some (.iconst 0, 0, 0) := by decide +kernel
theorem vr_156_25 : zrx 156 25 = some (.iconst 3, 0, 0) := by decide +kernel
theorem vr_156_26 : zrx 156 26 = some (.invokestatic 209, 132, 0) := by decide +kernel
theorem vr_156_29 : zrx 156 29 = some (.ifCond .eq 13, 0, 0) := by decide +kernel
theorem vr_156_32 : zrx 156 32 = some (.iload 4, 0, 0) := by decide +kernel
theorem vr_156_34 : zrx 156 34 = some (.iconst 0, 0, 0) := by decide +kernel
theorem vr_156_35 : zrx 156 35 = some (.iconst 3, 0, 0) := by decide +kernel
theorem vr_156_36 : zrx 156 36 = some (.invokestatic 209, 132, 0) := by decide +kernel
theorem vr_156_39 : zrx 156 39 = some (.ifCond .ne 9, 0, 0) := by decide +kernel
theorem vr_156_42 : zrx 156 42 = some (.aload_n 0, 0, 0) := by decide +kernel
theorem vr_156_43 : zrx 156 43 = some (.iconst 1, 0, 0) := by decide +kernel
theorem vr_156_44 : zrx 156 44 = some (.invokevirtual 212, 131, 190) := by decide +kernel
theorem vr_156_47 : zrx 156 47 = some (.ireturn, 0, 0) := by decide +kernel
theorem vr_156_48 : zrx 156 48 = some (.iload 5, 0, 0) := by decide +kernel
theorem vr_156_50 : zrx 156 50 = some (.iconst 0, 0, 0) := by decide +kernel
theorem vr_156_51 : zrx 156 51 = some (.bipush 63, 0, 0) := by decide +kernel
theorem vr_156_53 : zrx 156 53 = some (.invokestatic 209, 132, 0) := by decide +kernel
theorem vr_156_56 : zrx 156 56 = some (.ifCond .eq 28, 0, 0) := by decide +kernel
theorem vr_156_59 : zrx 156 59 = some (.iload 6, 0, 0) := by decide +kernel
theorem vr_156_61 : zrx 156 61 = some (.iconst 0, 0, 0) := by decide +kernel
theorem vr_156_62 : zrx 156 62 = some (.sipush 999, 0, 0) := by decide +kernel
theorem vr_156_65 : zrx 156 65 = some (.invokestatic 209, 132, 0) := by decide +kernel
theorem vr_156_68 : zrx 156 68 = some (.ifCond .eq 16, 0, 0) := by decide +kernel
theorem vr_156_71 : zrx 156 71 = some (.iload 7, 0, 0) := by decide +kernel
theorem vr_156_73 : zrx 156 73 = some (.iconst 0, 0, 0) := by decide +kernel
theorem vr_156_74 : zrx 156 74 = some (.aload_n 0, 0, 0) := by decide +kernel
theorem vr_156_75 : zrx 156 75 = some (.getfield 215, 18, 1) := by decide +kernel
theorem vr_156_78 : zrx 156 78 = some (.invokestatic 209, 132, 0) := by decide +kernel
theorem vr_156_81 : zrx 156 81 = some (.ifCond .ne 9, 0, 0) := by decide +kernel
theorem vr_156_84 : zrx 156 84 = some (.aload_n 0, 0, 0) := by decide +kernel
theorem vr_156_85 : zrx 156 85 = some (.iconst 2, 0, 0) := by decide +kernel
theorem vr_156_86 : zrx 156 86 = some (.invokevirtual 212, 131, 190) := by decide +kernel
theorem vr_156_89 : zrx 156 89 = some (.ireturn, 0, 0) := by decide +kernel
theorem vr_156_90 : zrx 156 90 = some (.aload_n 0, 0, 0) := by decide +kernel
theorem vr_156_91 : zrx 156 91 = some (.getfield 28, 18, 8) := by decide +kernel
theorem vr_156_94 : zrx 156 94 = some (.invokeinterface 59 1, 304, 35) := by decide +kernel
theorem vr_156_99 : zrx 156 99 = some (.bipush 24, 0, 0) := by decide +kernel
theorem vr_156_101 : zrx 156 101 = some (.if_icmp .ne 9, 0, 0) := by decide +kernel
theorem vr_156_104 : zrx 156 104 = some (.aload_n 0, 0, 0) := by decide +kernel
theorem vr_156_105 : zrx 156 105 = some (.iconst 3, 0, 0) := by decide +kernel
theorem vr_156_106 : zrx 156 106 = some (.invokevirtual 212, 131, 190) := by decide +kernel
theorem vr_156_109 : zrx 156 109 = some (.ireturn, 0, 0) := by decide +kernel
theorem vr_156_110 : zrx 156 110 = some (.iconst 0, 0, 0) := by decide +kernel
theorem vr_156_111 : zrx 156 111 = some (.istore 8, 0, 0) := by decide +kernel
theorem vr_156_113 : zrx 156 113 = some (.iconst 0, 0, 0) := by decide +kernel
theorem vr_156_114 : zrx 156 114 = some (.istore 9, 0, 0) := by decide +kernel
theorem vr_156_116 : zrx 156 116 = some (.iload 9, 0, 0) := by decide +kernel
theorem vr_156_118 : zrx 156 118 = some (.bipush 6, 0, 0) := by decide +kernel
theorem vr_156_120 : zrx 156 120 = some (.if_icmp .ge 39, 0, 0) := by decide +kernel
theorem vr_156_123 : zrx 156 123 = some (.iload 8, 0, 0) := by decide +kernel
theorem vr_156_125 : zrx 156 125 = some (.iload 5, 0, 0) := by decide +kernel
theorem vr_156_127 : zrx 156 127 = some (.iload 9, 0, 0) := by decide +kernel
theorem vr_156_129 : zrx 156 129 = some (.invokestatic 114, 133, 0) := by decide +kernel
theorem vr_156_132 : zrx 156 132 = some (.ifCond .eq 17, 0, 0) := by decide +kernel
theorem vr_156_135 : zrx 156 135 = some (.iconst 1, 0, 0) := by decide +kernel
theorem vr_156_136 : zrx 156 136 = some (.aload_n 0, 0, 0) := by decide +kernel
theorem vr_156_137 : zrx 156 137 = some (.getfield 15, 18, 5) := by decide +kernel
theorem vr_156_140 : zrx 156 140 = some (.iload_n 1, 0, 0) := by decide +kernel
theorem vr_156_141 : zrx 156 141 = some (.aaload, 0, 0) := by decide +kernel
theorem vr_156_142 : zrx 156 142 = some (.iload 9, 0, 0) := by decide +kernel
theorem vr_156_144 : zrx 156 144 = some (.iaload, 0, 0) := by decide +kernel
theorem vr_156_145 : zrx 156 145 = some (.ishl, 0, 0) := by decide +kernel
theorem vr_156_146 : zrx 156 146 = some (.goto 4, 0, 0) := by decide +kernel
theorem vr_156_149 : zrx 156 149 = some (.iconst 0, 0, 0) := by decide +kernel
theorem vr_156_150 : zrx 156 150 = some (.ior, 0, 0) := by decide +kernel
theorem vr_156_151 : zrx 156 151 = some (.istore 8, 0, 0) := by decide +kernel
theorem vr_156_153 : zrx 156 153 = some (.iinc 9 1, 0, 0) := by decide +kernel
theorem vr_156_156 : zrx 156 156 = some (.goto (-40), 0, 0) := by decide +kernel
theorem vr_156_159 : zrx 156 159 = some (.aload_n 0, 0, 0) := by decide +kernel
theorem vr_156_160 : zrx 156 160 = some (.getfield 28, 18, 8) := by decide +kernel
theorem vr_156_163 : zrx 156 163 = some (.new 85, 16, 0) := by decide +kernel
theorem vr_156_166 : zrx 156 166 = some (.dup, 0, 0) := by decide +kernel
theorem vr_156_167 : zrx 156 167 = some (.iload_n 1, 0, 0) := by decide +kernel
theorem vr_156_168 : zrx 156 168 = some (.iload_n 2, 0, 0) := by decide +kernel
theorem vr_156_169 : zrx 156 169 = some (.iload_n 3, 0, 0) := by decide +kernel
theorem vr_156_170 : zrx 156 170 = some (.iload 4, 0, 0) := by decide +kernel
theorem vr_156_172 : zrx 156 172 = some (.iload 8, 0, 0) := by decide +kernel
theorem vr_156_174 : zrx 156 174 = some (.iload 6, 0, 0) := by decide +kernel
theorem vr_156_176 : zrx 156 176 = some (.aload_n 0, 0, 0) := by decide +kernel
theorem vr_156_177 : zrx 156 177 = some (.getfield 215, 18, 1) := by decide +kernel
theorem vr_156_180 : zrx 156 180 = some (.iload 7, 0, 0) := by decide +kernel
theorem vr_156_182 : zrx 156 182 = some (.isub, 0, 0) := by decide +kernel
theorem vr_156_183 : zrx 156 183 = some (.invokespecial 232, 124, 170) := by decide +kernel
theorem vr_156_186 : zrx 156 186 = some (.invokeinterface 219 2, 309, 35) := by decide +kernel
theorem vr_156_191 : zrx 156 191 = some (.pop, 0, 0) := by decide +kernel
theorem vr_156_192 : zrx 156 192 = some (.aload_n 0, 0, 0) := by decide +kernel
theorem vr_156_193 : zrx 156 193 = some (.getfield 28, 18, 8) := by decide +kernel
theorem vr_156_196 : zrx 156 196 = some (.invokeinterface 59 1, 304, 35) := by decide +kernel
theorem vr_156_201 : zrx 156 201 = some (.iconst 1, 0, 0) := by decide +kernel
theorem vr_156_202 : zrx 156 202 = some (.isub, 0, 0) := by decide +kernel
theorem vr_156_203 : zrx 156 203 = some (.ireturn, 0, 0) := by decide +kernel
theorem vr_213_0 : zrx 213 0 = some (.aload 8, 0, 0) := by decide +kernel
theorem vr_213_2 : zrx 213 2 = some (.aload_n 0, 0, 0) := by decide +kernel
theorem vr_213_3 : zrx 213 3 = some (.iload_n 1, 0, 0) := by decide +kernel
theorem vr_213_4 : zrx 213 4 = some (.iload_n 2, 0, 0) := by decide +kernel
theorem vr_213_5 : zrx 213 5 = some (.iload_n 3, 0, 0) := by decide +kernel
theorem vr_213_6 : zrx 213 6 = some (.iload 4, 0, 0) := by decide +kernel
theorem vr_213_8 : zrx 213 8 = some (.iload 5, 0, 0) := by decide +kernel
theorem vr_213_10 : zrx 213 10 = some (.iload 6, 0, 0) := by decide +kernel
theorem vr_213_12 : zrx 213 12 = some (.iload 7, 0, 0) := by decide +kernel
theorem vr_213_14 : zrx 213 14 = some (.invokevirtual 39, 62, 140) := by decide +kernel
theorem vr_213_17 : zrx 213 17 = some (.i2l, 0, 0) := by decide +kernel
theorem vr_213_18 : zrx 213 18 = some (.putfield 13, 14, 1000) := by decide +kernel
theorem vr_213_21 : zrx 213 21 = some (.goto 15, 0, 0) := by decide +kernel
theorem vr_213_24 : zrx 213 24 = some (.astore 9, 0, 0) := by decide +kernel
theorem vr_213_26 : zrx 213 26 = some (.iconst 1, 0, 0) := by decide +kernel
theorem vr_213_27 : zrx 213 27 = some (.ireturn, 0, 0) := by decide +kernel
theorem vr_213_28 : zrx 213 28 = some (.astore 9, 0, 0) := by decide +kernel
theorem vr_213_30 : zrx 213 30 = some (.iconst 2, 0, 0) := by decide +kernel
theorem vr_213_31 : zrx 213 31 = some (.ireturn, 0, 0) := by decide +kernel
theorem vr_213_32 : zrx 213 32 = some (.astore 9, 0, 0) := by decide +kernel
theorem vr_213_34 : zrx 213 34 = some (.iconst 3, 0, 0) := by decide +kernel
theorem vr_213_35 : zrx 213 35 = some (.ireturn, 0, 0) := by decide +kernel
theorem vr_213_36 : zrx 213 36 = some (.iconst 0, 0, 0) := by decide +kernel
theorem vr_213_37 : zrx 213 37 = some (.ireturn, 0, 0) := by decide +kernel
theorem vh_62_3_0 : zHit (zi 62) 3 0 = none := by decide +kernel
theorem vh_62_9_0 : zHit (zi 62) 9 0 = none := by decide +kernel
theorem vh_62_14_0 : zHit (zi 62) 14 0 = none := by decide +kernel
theorem vh_62_20_0 : zHit (zi 62) 20 0 = none := by decide +kernel
theorem vh_62_28_1 : zHit (zi 62) 28 1 = none := by decide +kernel
theorem vh_62_37_1 : zHit (zi 62) 37 1 = none := by decide +kernel
theorem vh_62_47_1 : zHit (zi 62) 47 1 = none := by decide +kernel
theorem vh_62_64_2 : zHit (zi 62) 64 2 = none := by decide +kernel
theorem vh_213_14_0 : (zHit (zi 213) 14 0).map (fun r => r.2.2.1) = some 24 := by decide +kernel
theorem vh_213_14_1 : (zHit (zi 213) 14 1).map (fun r => r.2.2.1) = some 28 := by decide +kernel
theorem vh_213_14_2 : (zHit (zi 213) 14 2).map (fun r => r.2.2.1) = some 32 := by decide +kernel
theorem C_isFor (n : Nat) (p q : Nat) (d : Int32) (h : List zC) (u : Nat) : zL zrx zi n 55 0 [(0, .ref p), (1, .ref q), (2, .int d)] [] h u (fun o h2 _ => h2 = h ∧ o = .inl (some (.int (if okP (iv h p) (iv h q 3) (iv h q 2) (iv h q 4) (iv h q 5) d then 1 else 0)))) := by
  refine zSaload (m := 1) (k := 1) vr_55_0 rfl rfl rfl ?_
  refine zLget vr_55_1 rfl (fun p4220 w4220 e4220 t4220 g4220 => ?_)
  cases e4220
  refine zSaload (m := 1) (k := 0) vr_55_4 rfl rfl rfl ?_
  refine zLget vr_55_5 rfl (fun p4222 w4222 e4222 t4222 g4222 => ?_)
  cases e4222
  refine zSb2 (f := fun x y => decide (¬ x = y)) (off := 80) (t := 88) vr_55_8 rfl rfl rfl (fun x4223 y4223 e4223 f4223 q4223 => ?_) (fun x4223 y4223 e4223 f4223 q4223 => ?_)
  · cases e4223
    cases f4223
    have c4223 := of_decide_eq_true q4223
    refine zSp0 (pc' := 89) (st' := .int (0) :: _) vr_55_88 rfl rfl ?_
    refine zLiret vr_55_89 rfl (fun x4225 e4225 => ?_)
    cases e4225
    first
      | exact ⟨rfl, by rw [if_pos (show okP (iv h p) (iv h q 3) (iv h q 2) (iv h q 4) (iv h q 5) d from ⟨by rw [iv_of g4220, iv_of g4222]; exact Decidable.not_not.mp c4223, by rw [iv_of g4172, iv_of g4205]; exact Decidable.not_not.mp c4215, by have e2 := (iv_of g4122).symm.trans (iv_of g4213); rw [iv_of g4005, iv_of g4122]; have e3 := Decidable.not_not.mp c4159; rw [← e2] at e3; exact e3, by rw [iv_of g4161, iv_of g4015]; exact Decidable.not_not.mp c4130, by rw [iv_of g4133, iv_of g4135]; exact (Int32.not_lt.mp c4138), by rw [iv_of g4140, iv_of g4144]; exact (Int32.not_lt.mp c3447), by rw [iv_of g4028]; exact (Int32.not_lt.mp c4152)⟩)]⟩
      | exact ⟨rfl, by rw [if_neg (fun z : okP (iv h p) (iv h q 3) (iv h q 2) (iv h q 4) (iv h q 5) d => by have y := z.1; rw [iv_of g4220, iv_of g4222] at y; exact c4223 y)]⟩
      | exact ⟨rfl, by rw [if_neg (fun z : okP (iv h p) (iv h q 3) (iv h q 2) (iv h q 4) (iv h q 5) d => by have y := z.2.1; rw [iv_of g4172, iv_of g4205] at y; exact c4215 y)]⟩
      | exact ⟨rfl, by rw [if_neg (fun z : okP (iv h p) (iv h q 3) (iv h q 2) (iv h q 4) (iv h q 5) d => by have y := z.2.2.1; rw [iv_of g4005, iv_of g4122] at y; exact c4159 (by rw [← (iv_of g4122).symm.trans (iv_of g4213)]; exact y))]⟩
      | exact ⟨rfl, by rw [if_neg (fun z : okP (iv h p) (iv h q 3) (iv h q 2) (iv h q 4) (iv h q 5) d => by have y := z.2.2.2.1; rw [iv_of g4161, iv_of g4015] at y; exact c4130 y)]⟩
      | exact ⟨rfl, by rw [if_neg (fun z : okP (iv h p) (iv h q 3) (iv h q 2) (iv h q 4) (iv h q 5) d => by have y := z.2.2.2.2.1; rw [iv_of g4133, iv_of g4135] at y; exact absurd c4138 (Int32.not_lt.mpr y))]⟩
      | exact ⟨rfl, by rw [if_neg (fun z : okP (iv h p) (iv h q 3) (iv h q 2) (iv h q 4) (iv h q 5) d => by have y := z.2.2.2.2.2.1; rw [iv_of g4140, iv_of g4144] at y; exact absurd c3447 (Int32.not_lt.mpr y))]⟩
      | exact ⟨rfl, by rw [if_neg (fun z : okP (iv h p) (iv h q 3) (iv h q 2) (iv h q 4) (iv h q 5) d => by have y := z.2.2.2.2.2.2; rw [iv_of g4028] at y; exact absurd c4152 (Int32.not_lt.mpr y))]⟩
  · cases e4223
    cases f4223
    have c4223 := ndc q4223
    refine zSaload (m := 1) (k := 0) vr_55_11 rfl rfl rfl ?_
    refine zLget vr_55_12 rfl (fun p4227 w4227 e4227 t4227 g4227 => ?_)
    cases e4227
    refine zSaload (m := 1) (k := 1) vr_55_15 rfl rfl rfl ?_
    refine zLget vr_55_16 rfl (fun p4229 w4229 e4229 t4229 g4229 => ?_)
    cases e4229
    refine zS2 (f := fun x y => .int (x >>> (y &&& 31))) vr_55_19 rfl rfl (fun x4230 y4230 e4230 f4230 => ?_)
    cases e4230
    cases f4230
    refine zSp0 (pc' := 21) (st' := .int (1) :: _) vr_55_20 rfl rfl ?_
    refine zS2 (f := fun x y => .int (x &&& y)) vr_55_21 rfl rfl (fun x4232 y4232 e4232 f4232 => ?_)
    cases e4232
    cases f4232
    refine zSp0 (pc' := 23) (st' := .int (1) :: _) vr_55_22 rfl rfl ?_
    refine zSb2 (f := fun x y => decide (¬ x = y)) (off := 65) (t := 88) vr_55_23 rfl rfl rfl (fun x4234 y4234 e4234 f4234 q4234 => ?_) (fun x4234 y4234 e4234 f4234 q4234 => ?_)
    · cases e4234
      cases f4234
      have c4234 := of_decide_eq_true q4234
      refine zSp0 (pc' := 89) (st' := .int (0) :: _) vr_55_88 rfl rfl ?_
      refine zLiret vr_55_89 rfl (fun x4236 e4236 => ?_)
      cases e4236
      first
        | exact ⟨rfl, by rw [if_pos (show okP (iv h p) (iv h q 3) (iv h q 2) (iv h q 4) (iv h q 5) d from ⟨by rw [iv_of g4220, iv_of g4222]; exact Decidable.not_not.mp c4223, by rw [iv_of g4227, iv_of g4229]; exact Decidable.not_not.mp c4234, by have e2 := (iv_of g4122).symm.trans (iv_of g4213); rw [iv_of g4005, iv_of g4122]; have e3 := Decidable.not_not.mp c4159; rw [← e2] at e3; exact e3, by rw [iv_of g4161, iv_of g4015]; exact Decidable.not_not.mp c4130, by rw [iv_of g4133, iv_of g4135]; exact (Int32.not_lt.mp c4138), by rw [iv_of g4140, iv_of g4144]; exact (Int32.not_lt.mp c3447), by rw [iv_of g4028]; exact (Int32.not_lt.mp c4152)⟩)]⟩
        | exact ⟨rfl, by rw [if_neg (fun z : okP (iv h p) (iv h q 3) (iv h q 2) (iv h q 4) (iv h q 5) d => by have y := z.1; rw [iv_of g4220, iv_of g4222] at y; exact c4223 y)]⟩
        | exact ⟨rfl, by rw [if_neg (fun z : okP (iv h p) (iv h q 3) (iv h q 2) (iv h q 4) (iv h q 5) d => by have y := z.2.1; rw [iv_of g4227, iv_of g4229] at y; exact c4234 y)]⟩
        | exact ⟨rfl, by rw [if_neg (fun z : okP (iv h p) (iv h q 3) (iv h q 2) (iv h q 4) (iv h q 5) d => by have y := z.2.2.1; rw [iv_of g4005, iv_of g4122] at y; exact c4159 (by rw [← (iv_of g4122).symm.trans (iv_of g4213)]; exact y))]⟩
        | exact ⟨rfl, by rw [if_neg (fun z : okP (iv h p) (iv h q 3) (iv h q 2) (iv h q 4) (iv h q 5) d => by have y := z.2.2.2.1; rw [iv_of g4161, iv_of g4015] at y; exact c4130 y)]⟩
        | exact ⟨rfl, by rw [if_neg (fun z : okP (iv h p) (iv h q 3) (iv h q 2) (iv h q 4) (iv h q 5) d => by have y := z.2.2.2.2.1; rw [iv_of g4133, iv_of g4135] at y; exact absurd c4138 (Int32.not_lt.mpr y))]⟩
        | exact ⟨rfl, by rw [if_neg (fun z : okP (iv h p) (iv h q 3) (iv h q 2) (iv h q 4) (iv h q 5) d => by have y := z.2.2.2.2.2.1; rw [iv_of g4140, iv_of g4144] at y; exact absurd c3447 (Int32.not_lt.mpr y))]⟩
        | exact ⟨rfl, by rw [if_neg (fun z : okP (iv h p) (iv h q 3) (iv h q 2) (iv h q 4) (iv h q 5) d => by have y := z.2.2.2.2.2.2; rw [iv_of g4028] at y; exact absurd c4152 (Int32.not_lt.mpr y))]⟩
    · cases e4234
      cases f4234
      have c4234 := ndc q4234
      refine zSaload (m := 1) (k := 1) vr_55_26 rfl rfl rfl ?_
      refine zLget vr_55_27 rfl (fun p4238 w4238 e4238 t4238 g4238 => ?_)
      cases e4238
      refine zSaload (m := 1) (k := 0) vr_55_30 rfl rfl rfl ?_
      refine zLget vr_55_31 rfl (fun p4240 w4240 e4240 t4240 g4240 => ?_)
      cases e4240
      refine zS2 (f := fun x y => .int (x &&& y)) vr_55_34 rfl rfl (fun x4241 y4241 e4241 f4241 => ?_)
      cases e4241
      cases f4241
      refine zSaload (m := 1) (k := 0) vr_55_35 rfl rfl rfl ?_
      refine zLget vr_55_36 rfl (fun p4243 w4243 e4243 t4243 g4243 => ?_)
      cases e4243
      refine zSb2 (f := fun x y => decide (¬ x = y)) (off := 49) (t := 88) vr_55_39 rfl rfl rfl (fun x4244 y4244 e4244 f4244 q4244 => ?_) (fun x4244 y4244 e4244 f4244 q4244 => ?_)
      · cases e4244
        cases f4244
        have c4244 := of_decide_eq_true q4244
        refine zSp0 (pc' := 89) (st' := .int (0) :: _) vr_55_88 rfl rfl ?_
        refine zLiret vr_55_89 rfl (fun x4246 e4246 => ?_)
        cases e4246
        first
          | exact ⟨rfl, by rw [if_pos (show okP (iv h p) (iv h q 3) (iv h q 2) (iv h q 4) (iv h q 5) d from ⟨by rw [iv_of g4220, iv_of g4222]; exact Decidable.not_not.mp c4223, by rw [iv_of g4227, iv_of g4229]; exact Decidable.not_not.mp c4234, by have e2 := (iv_of g4240).symm.trans (iv_of g4243); rw [iv_of g4238, iv_of g4240]; have e3 := Decidable.not_not.mp c4244; rw [← e2] at e3; exact e3, by rw [iv_of g4161, iv_of g4015]; exact Decidable.not_not.mp c4130, by rw [iv_of g4133, iv_of g4135]; exact (Int32.not_lt.mp c4138), by rw [iv_of g4140, iv_of g4144]; exact (Int32.not_lt.mp c3447), by rw [iv_of g4028]; exact (Int32.not_lt.mp c4152)⟩)]⟩
          | exact ⟨rfl, by rw [if_neg (fun z : okP (iv h p) (iv h q 3) (iv h q 2) (iv h q 4) (iv h q 5) d => by have y := z.1; rw [iv_of g4220, iv_of g4222] at y; exact c4223 y)]⟩
          | exact ⟨rfl, by rw [if_neg (fun z : okP (iv h p) (iv h q 3) (iv h q 2) (iv h q 4) (iv h q 5) d => by have y := z.2.1; rw [iv_of g4227, iv_of g4229] at y; exact c4234 y)]⟩
          | exact ⟨rfl, by rw [if_neg (fun z : okP (iv h p) (iv h q 3) (iv h q 2) (iv h q 4) (iv h q 5) d => by have y := z.2.2.1; rw [iv_of g4238, iv_of g4240] at y; exact c4244 (by rw [← (iv_of g4240).symm.trans (iv_of g4243)]; exact y))]⟩
          | exact ⟨rfl, by rw [if_neg (fun z : okP (iv h p) (iv h q 3) (iv h q 2) (iv h q 4) (iv h q 5) d => by have y := z.2.2.2.1; rw [iv_of g4161, iv_of g4015] at y; exact c4130 y)]⟩
          | exact ⟨rfl, by rw [if_neg (fun z : okP (iv h p) (iv h q 3) (iv h q 2) (iv h q 4) (iv h q 5) d => by have y := z.2.2.2.2.1; rw [iv_of g4133, iv_of g4135] at y; exact absurd c4138 (Int32.not_lt.mpr y))]⟩
          | exact ⟨rfl, by rw [if_neg (fun z : okP (iv h p) (iv h q 3) (iv h q 2) (iv h q 4) (iv h q 5) d => by have y := z.2.2.2.2.2.1; rw [iv_of g4140, iv_of g4144] at y; exact absurd c3447 (Int32.not_lt.mpr y))]⟩
          | exact ⟨rfl, by rw [if_neg (fun z : okP (iv h p) (iv h q 3) (iv h q 2) (iv h q 4) (iv h q 5) d => by have y := z.2.2.2.2.2.2; rw [iv_of g4028] at y; exact absurd c4152 (Int32.not_lt.mpr y))]⟩
      · cases e4244
        cases f4244
        have c4244 := ndc q4244
        refine zSaload (m := 1) (k := 1) vr_55_42 rfl rfl rfl ?_
        refine zLget vr_55_43 rfl (fun p4248 w4248 e4248 t4248 g4248 => ?_)
        cases e4248
        refine zSaload (m := 1) (k := 0) vr_55_46 rfl rfl rfl ?_
        refine zLget vr_55_47 rfl (fun p4250 w4250 e4250 t4250 g4250 => ?_)
        cases e4250
        refine zS2 (f := fun x y => .int (x &&& y)) vr_55_50 rfl rfl (fun x4251 y4251 e4251 f4251 => ?_)
        cases e4251
        cases f4251
        refine zSb1 (f := fun x => decide (¬ x = 0)) (off := 37) (t := 88) vr_55_51 rfl rfl rfl (fun x4252 e4252 q4252 => ?_) (fun x4252 e4252 q4252 => ?_)
        · cases e4252
          have c4252 := of_decide_eq_true q4252
          refine zSp0 (pc' := 89) (st' := .int (0) :: _) vr_55_88 rfl rfl ?_
          refine zLiret vr_55_89 rfl (fun x4254 e4254 => ?_)
          cases e4254
          first
            | exact ⟨rfl, by rw [if_pos (show okP (iv h p) (iv h q 3) (iv h q 2) (iv h q 4) (iv h q 5) d from ⟨by rw [iv_of g4220, iv_of g4222]; exact Decidable.not_not.mp c4223, by rw [iv_of g4227, iv_of g4229]; exact Decidable.not_not.mp c4234, by have e2 := (iv_of g4240).symm.trans (iv_of g4243); rw [iv_of g4238, iv_of g4240]; have e3 := Decidable.not_not.mp c4244; rw [← e2] at e3; exact e3, by rw [iv_of g4248, iv_of g4250]; exact Decidable.not_not.mp c4252, by rw [iv_of g4133, iv_of g4135]; exact (Int32.not_lt.mp c4138), by rw [iv_of g4140, iv_of g4144]; exact (Int32.not_lt.mp c3447), by rw [iv_of g4028]; exact (Int32.not_lt.mp c4152)⟩)]⟩
            | exact ⟨rfl, by rw [if_neg (fun z : okP (iv h p) (iv h q 3) (iv h q 2) (iv h q 4) (iv h q 5) d => by have y := z.1; rw [iv_of g4220, iv_of g4222] at y; exact c4223 y)]⟩
            | exact ⟨rfl, by rw [if_neg (fun z : okP (iv h p) (iv h q 3) (iv h q 2) (iv h q 4) (iv h q 5) d => by have y := z.2.1; rw [iv_of g4227, iv_of g4229] at y; exact c4234 y)]⟩
            | exact ⟨rfl, by rw [if_neg (fun z : okP (iv h p) (iv h q 3) (iv h q 2) (iv h q 4) (iv h q 5) d => by have y := z.2.2.1; rw [iv_of g4238, iv_of g4240] at y; exact c4244 (by rw [← (iv_of g4240).symm.trans (iv_of g4243)]; exact y))]⟩
            | exact ⟨rfl, by rw [if_neg (fun z : okP (iv h p) (iv h q 3) (iv h q 2) (iv h q 4) (iv h q 5) d => by have y := z.2.2.2.1; rw [iv_of g4248, iv_of g4250] at y; exact c4252 y)]⟩
            | exact ⟨rfl, by rw [if_neg (fun z : okP (iv h p) (iv h q 3) (iv h q 2) (iv h q 4) (iv h q 5) d => by have y := z.2.2.2.2.1; rw [iv_of g4133, iv_of g4135] at y; exact absurd c4138 (Int32.not_lt.mpr y))]⟩
            | exact ⟨rfl, by rw [if_neg (fun z : okP (iv h p) (iv h q 3) (iv h q 2) (iv h q 4) (iv h q 5) d => by have y := z.2.2.2.2.2.1; rw [iv_of g4140, iv_of g4144] at y; exact absurd c3447 (Int32.not_lt.mpr y))]⟩
            | exact ⟨rfl, by rw [if_neg (fun z : okP (iv h p) (iv h q 3) (iv h q 2) (iv h q 4) (iv h q 5) d => by have y := z.2.2.2.2.2.2; rw [iv_of g4028] at y; exact absurd c4152 (Int32.not_lt.mpr y))]⟩
        · cases e4252
          have c4252 := ndc q4252
          refine zSaload (m := 1) (k := 1) vr_55_54 rfl rfl rfl ?_
          refine zLget vr_55_55 rfl (fun p4256 w4256 e4256 t4256 g4256 => ?_)
          cases e4256
          refine zSaload (m := 1) (k := 0) vr_55_58 rfl rfl rfl ?_
          refine zLget vr_55_59 rfl (fun p4258 w4258 e4258 t4258 g4258 => ?_)
          cases e4258
          refine zSb2 (f := fun x y => decide (x < y)) (off := 26) (t := 88) vr_55_62 rfl rfl rfl (fun x4259 y4259 e4259 f4259 q4259 => ?_) (fun x4259 y4259 e4259 f4259 q4259 => ?_)
          · cases e4259
            cases f4259
            have c4259 := of_decide_eq_true q4259
            refine zSp0 (pc' := 89) (st' := .int (0) :: _) vr_55_88 rfl rfl ?_
            refine zLiret vr_55_89 rfl (fun x4261 e4261 => ?_)
            cases e4261
            first
              | exact ⟨rfl, by rw [if_pos (show okP (iv h p) (iv h q 3) (iv h q 2) (iv h q 4) (iv h q 5) d from ⟨by rw [iv_of g4220, iv_of g4222]; exact Decidable.not_not.mp c4223, by rw [iv_of g4227, iv_of g4229]; exact Decidable.not_not.mp c4234, by have e2 := (iv_of g4240).symm.trans (iv_of g4243); rw [iv_of g4238, iv_of g4240]; have e3 := Decidable.not_not.mp c4244; rw [← e2] at e3; exact e3, by rw [iv_of g4248, iv_of g4250]; exact Decidable.not_not.mp c4252, by rw [iv_of g4256, iv_of g4258]; exact (Int32.not_lt.mp c4259), by rw [iv_of g4140, iv_of g4144]; exact (Int32.not_lt.mp c3447), by rw [iv_of g4028]; exact (Int32.not_lt.mp c4152)⟩)]⟩
              | exact ⟨rfl, by rw [if_neg (fun z : okP (iv h p) (iv h q 3) (iv h q 2) (iv h q 4) (iv h q 5) d => by have y := z.1; rw [iv_of g4220, iv_of g4222] at y; exact c4223 y)]⟩
              | exact ⟨rfl, by rw [if_neg (fun z : okP (iv h p) (iv h q 3) (iv h q 2) (iv h q 4) (iv h q 5) d => by have y := z.2.1; rw [iv_of g4227, iv_of g4229] at y; exact c4234 y)]⟩
              | exact ⟨rfl, by rw [if_neg (fun z : okP (iv h p) (iv h q 3) (iv h q 2) (iv h q 4) (iv h q 5) d => by have y := z.2.2.1; rw [iv_of g4238, iv_of g4240] at y; exact c4244 (by rw [← (iv_of g4240).symm.trans (iv_of g4243)]; exact y))]⟩
              | exact ⟨rfl, by rw [if_neg (fun z : okP (iv h p) (iv h q 3) (iv h q 2) (iv h q 4) (iv h q 5) d => by have y := z.2.2.2.1; rw [iv_of g4248, iv_of g4250] at y; exact c4252 y)]⟩
              | exact ⟨rfl, by rw [if_neg (fun z : okP (iv h p) (iv h q 3) (iv h q 2) (iv h q 4) (iv h q 5) d => by have y := z.2.2.2.2.1; rw [iv_of g4256, iv_of g4258] at y; exact absurd c4259 (Int32.not_lt.mpr y))]⟩
              | exact ⟨rfl, by rw [if_neg (fun z : okP (iv h p) (iv h q 3) (iv h q 2) (iv h q 4) (iv h q 5) d => by have y := z.2.2.2.2.2.1; rw [iv_of g4140, iv_of g4144] at y; exact absurd c3447 (Int32.not_lt.mpr y))]⟩
              | exact ⟨rfl, by rw [if_neg (fun z : okP (iv h p) (iv h q 3) (iv h q 2) (iv h q 4) (iv h q 5) d => by have y := z.2.2.2.2.2.2; rw [iv_of g4028] at y; exact absurd c4152 (Int32.not_lt.mpr y))]⟩
          · cases e4259
            cases f4259
            have c4259 := ndc q4259
            refine zSaload (m := 1) (k := 1) vr_55_65 rfl rfl rfl ?_
            refine zLget vr_55_66 rfl (fun p4263 w4263 e4263 t4263 g4263 => ?_)
            cases e4263
            refine zSaload (m := 1) (k := 0) vr_55_69 rfl rfl rfl ?_
            refine zLget vr_55_70 rfl (fun p4265 w4265 e4265 t4265 g4265 => ?_)
            cases e4265
            refine zSb2 (f := fun x y => decide (y < x)) (off := 15) (t := 88) vr_55_73 rfl rfl rfl (fun x4266 y4266 e4266 f4266 q4266 => ?_) (fun x4266 y4266 e4266 f4266 q4266 => ?_)
            · cases e4266
              cases f4266
              have c4266 := of_decide_eq_true q4266
              refine zSp0 (pc' := 89) (st' := .int (0) :: _) vr_55_88 rfl rfl ?_
              refine zLiret vr_55_89 rfl (fun x4268 e4268 => ?_)
              cases e4268
              first
                | exact ⟨rfl, by rw [if_pos (show okP (iv h p) (iv h q 3) (iv h q 2) (iv h q 4) (iv h q 5) d from ⟨by rw [iv_of g4220, iv_of g4222]; exact Decidable.not_not.mp c4223, by rw [iv_of g4227, iv_of g4229]; exact Decidable.not_not.mp c4234, by have e2 := (iv_of g4240).symm.trans (iv_of g4243); rw [iv_of g4238, iv_of g4240]; have e3 := Decidable.not_not.mp c4244; rw [← e2] at e3; exact e3, by rw [iv_of g4248, iv_of g4250]; exact Decidable.not_not.mp c4252, by rw [iv_of g4256, iv_of g4258]; exact (Int32.not_lt.mp c4259), by rw [iv_of g4263, iv_of g4265]; exact (Int32.not_lt.mp c4266), by rw [iv_of g4028]; exact (Int32.not_lt.mp c4152)⟩)]⟩
                | exact ⟨rfl, by rw [if_neg (fun z : okP (iv h p) (iv h q 3) (iv h q 2) (iv h q 4) (iv h q 5) d => by have y := z.1; rw [iv_of g4220, iv_of g4222] at y; exact c4223 y)]⟩
                | exact ⟨rfl, by rw [if_neg (fun z : okP (iv h p) (iv h q 3) (iv h q 2) (iv h q 4) (iv h q 5) d => by have y := z.2.1; rw [iv_of g4227, iv_of g4229] at y; exact c4234 y)]⟩
                | exact ⟨rfl, by rw [if_neg (fun z : okP (iv h p) (iv h q 3) (iv h q 2) (iv h q 4) (iv h q 5) d => by have y := z.2.2.1; rw [iv_of g4238, iv_of g4240] at y; exact c4244 (by rw [← (iv_of g4240).symm.trans (iv_of g4243)]; exact y))]⟩
                | exact ⟨rfl, by rw [if_neg (fun z : okP (iv h p) (iv h q 3) (iv h q 2) (iv h q 4) (iv h q 5) d => by have y := z.2.2.2.1; rw [iv_of g4248, iv_of g4250] at y; exact c4252 y)]⟩
                | exact ⟨rfl, by rw [if_neg (fun z : okP (iv h p) (iv h q 3) (iv h q 2) (iv h q 4) (iv h q 5) d => by have y := z.2.2.2.2.1; rw [iv_of g4256, iv_of g4258] at y; exact absurd c4259 (Int32.not_lt.mpr y))]⟩
                | exact ⟨rfl, by rw [if_neg (fun z : okP (iv h p) (iv h q 3) (iv h q 2) (iv h q 4) (iv h q 5) d => by have y := z.2.2.2.2.2.1; rw [iv_of g4263, iv_of g4265] at y; exact absurd c4266 (Int32.not_lt.mpr y))]⟩
                | exact ⟨rfl, by rw [if_neg (fun z : okP (iv h p) (iv h q 3) (iv h q 2) (iv h q 4) (iv h q 5) d => by have y := z.2.2.2.2.2.2; rw [iv_of g4028] at y; exact absurd c4152 (Int32.not_lt.mpr y))]⟩
            · cases e4266
              cases f4266
              have c4266 := ndc q4266
              refine zSiload (m := 1) (k := 2) vr_55_76 rfl rfl rfl (fun x4269 e4269 => ?_)
              cases e4269
              refine zSaload (m := 1) (k := 0) vr_55_77 rfl rfl rfl ?_
              refine zLget vr_55_78 rfl (fun p4271 w4271 e4271 t4271 g4271 => ?_)
              cases e4271
              refine zSb2 (f := fun x y => decide (x < y)) (off := 7) (t := 88) vr_55_81 rfl rfl rfl (fun x4272 y4272 e4272 f4272 q4272 => ?_) (fun x4272 y4272 e4272 f4272 q4272 => ?_)
              · cases e4272
                cases f4272
                have c4272 := of_decide_eq_true q4272
                refine zSp0 (pc' := 89) (st' := .int (0) :: _) vr_55_88 rfl rfl ?_
                refine zLiret vr_55_89 rfl (fun x4274 e4274 => ?_)
                cases e4274
                first
                  | exact ⟨rfl, by rw [if_pos (show okP (iv h p) (iv h q 3) (iv h q 2) (iv h q 4) (iv h q 5) d from ⟨by rw [iv_of g4220, iv_of g4222]; exact Decidable.not_not.mp c4223, by rw [iv_of g4227, iv_of g4229]; exact Decidable.not_not.mp c4234, by have e2 := (iv_of g4240).symm.trans (iv_of g4243); rw [iv_of g4238, iv_of g4240]; have e3 := Decidable.not_not.mp c4244; rw [← e2] at e3; exact e3, by rw [iv_of g4248, iv_of g4250]; exact Decidable.not_not.mp c4252, by rw [iv_of g4256, iv_of g4258]; exact (Int32.not_lt.mp c4259), by rw [iv_of g4263, iv_of g4265]; exact (Int32.not_lt.mp c4266), by rw [iv_of g4271]; exact (Int32.not_lt.mp c4272)⟩)]⟩
                  | exact ⟨rfl, by rw [if_neg (fun z : okP (iv h p) (iv h q 3) (iv h q 2) (iv h q 4) (iv h q 5) d => by have y := z.1; rw [iv_of g4220, iv_of g4222] at y; exact c4223 y)]⟩
                  | exact ⟨rfl, by rw [if_neg (fun z : okP (iv h p) (iv h q 3) (iv h q 2) (iv h q 4) (iv h q 5) d => by have y := z.2.1; rw [iv_of g4227, iv_of g4229] at y; exact c4234 y)]⟩
                  | exact ⟨rfl, by rw [if_neg (fun z : okP (iv h p) (iv h q 3) (iv h q 2) (iv h q 4) (iv h q 5) d => by have y := z.2.2.1; rw [iv_of g4238, iv_of g4240] at y; exact c4244 (by rw [← (iv_of g4240).symm.trans (iv_of g4243)]; exact y))]⟩
                  | exact ⟨rfl, by rw [if_neg (fun z : okP (iv h p) (iv h q 3) (iv h q 2) (iv h q 4) (iv h q 5) d => by have y := z.2.2.2.1; rw [iv_of g4248, iv_of g4250] at y; exact c4252 y)]⟩
                  | exact ⟨rfl, by rw [if_neg (fun z : okP (iv h p) (iv h q 3) (iv h q 2) (iv h q 4) (iv h q 5) d => by have y := z.2.2.2.2.1; rw [iv_of g4256, iv_of g4258] at y; exact absurd c4259 (Int32.not_lt.mpr y))]⟩
                  | exact ⟨rfl, by rw [if_neg (fun z : okP (iv h p) (iv h q 3) (iv h q 2) (iv h q 4) (iv h q 5) d => by have y := z.2.2.2.2.2.1; rw [iv_of g4263, iv_of g4265] at y; exact absurd c4266 (Int32.not_lt.mpr y))]⟩
                  | exact ⟨rfl, by rw [if_neg (fun z : okP (iv h p) (iv h q 3) (iv h q 2) (iv h q 4) (iv h q 5) d => by have y := z.2.2.2.2.2.2; rw [iv_of g4271] at y; exact absurd c4272 (Int32.not_lt.mpr y))]⟩
              · cases e4272
                cases f4272
                have c4272 := ndc q4272
                refine zSp0 (pc' := 85) (st' := .int (1) :: _) vr_55_84 rfl rfl ?_
                refine zSgo (t := 89) vr_55_85 rfl rfl ?_
                refine zLiret vr_55_89 rfl (fun x4277 e4277 => ?_)
                cases e4277
                first
                  | exact ⟨rfl, by rw [if_pos (show okP (iv h p) (iv h q 3) (iv h q 2) (iv h q 4) (iv h q 5) d from ⟨by rw [iv_of g4220, iv_of g4222]; exact Decidable.not_not.mp c4223, by rw [iv_of g4227, iv_of g4229]; exact Decidable.not_not.mp c4234, by have e2 := (iv_of g4240).symm.trans (iv_of g4243); rw [iv_of g4238, iv_of g4240]; have e3 := Decidable.not_not.mp c4244; rw [← e2] at e3; exact e3, by rw [iv_of g4248, iv_of g4250]; exact Decidable.not_not.mp c4252, by rw [iv_of g4256, iv_of g4258]; exact (Int32.not_lt.mp c4259), by rw [iv_of g4263, iv_of g4265]; exact (Int32.not_lt.mp c4266), by rw [iv_of g4271]; exact (Int32.not_lt.mp c4272)⟩)]⟩
                  | exact ⟨rfl, by rw [if_neg (fun z : okP (iv h p) (iv h q 3) (iv h q 2) (iv h q 4) (iv h q 5) d => by have y := z.1; rw [iv_of g4220, iv_of g4222] at y; exact c4223 y)]⟩
                  | exact ⟨rfl, by rw [if_neg (fun z : okP (iv h p) (iv h q 3) (iv h q 2) (iv h q 4) (iv h q 5) d => by have y := z.2.1; rw [iv_of g4227, iv_of g4229] at y; exact c4234 y)]⟩
                  | exact ⟨rfl, by rw [if_neg (fun z : okP (iv h p) (iv h q 3) (iv h q 2) (iv h q 4) (iv h q 5) d => by have y := z.2.2.1; rw [iv_of g4238, iv_of g4240] at y; exact c4244 (by rw [← (iv_of g4240).symm.trans (iv_of g4243)]; exact y))]⟩
                  | exact ⟨rfl, by rw [if_neg (fun z : okP (iv h p) (iv h q 3) (iv h q 2) (iv h q 4) (iv h q 5) d => by have y := z.2.2.2.1; rw [iv_of g4248, iv_of g4250] at y; exact c4252 y)]⟩
                  | exact ⟨rfl, by rw [if_neg (fun z : okP (iv h p) (iv h q 3) (iv h q 2) (iv h q 4) (iv h q 5) d => by have y := z.2.2.2.2.1; rw [iv_of g4256, iv_of g4258] at y; exact absurd c4259 (Int32.not_lt.mpr y))]⟩
                  | exact ⟨rfl, by rw [if_neg (fun z : okP (iv h p) (iv h q 3) (iv h q 2) (iv h q 4) (iv h q 5) d => by have y := z.2.2.2.2.2.1; rw [iv_of g4263, iv_of g4265] at y; exact absurd c4266 (Int32.not_lt.mpr y))]⟩
                  | exact ⟨rfl, by rw [if_neg (fun z : okP (iv h p) (iv h q 3) (iv h q 2) (iv h q 4) (iv h q 5) d => by have y := z.2.2.2.2.2.2; rw [iv_of g4271] at y; exact absurd c4272 (Int32.not_lt.mpr y))]⟩
set_option maxRecDepth 20000 in
theorem C_ofP_loop {par d cnt : Int32} {q : Nat} {h : List zC} (hS : Stc h) (hc : gF h 28 2 = some (.int cnt)) (h0 : 0 ≤ cnt.toInt) (h40 : cnt.toInt ≤ 40) : ∀ (n k : Nat) (s t : Int32) (w : Value) (u : Nat), k ≤ cnt.toNatClampNeg → cuC (dC h par (iv h q 3) (iv h q 2) (iv h q 4) (iv h q 5) d) k = (t, s) → zL zrx zi n 19 9 [(6, .int (Int32.ofNat k)), (5, .int s), (4, .int t), (0, .ref 28), (1, .int par), (2, .ref q), (3, .int d), (7, w)] [] h u (fun o h2 _ => h2 = h ∧ o = .inl (some (.int (cuC (dC h par (iv h q 3) (iv h q 2) (iv h q 4) (iv h q 5) d) cnt.toNatClampNeg).1)))
  | 0, _, _, _, _, _, _, _ => trivial
  | n + 1, k, s, t, w, u, hk, hD => by
    have ck : cnt.toNatClampNeg = cnt.toInt.toNat := rfl
    have kk := (toNat_ofNat (m := k) (by omega))
    refine zLp vr_19_9 rfl rfl ?_
    refine zSaload (m := 1) (k := 0) vr_19_11 rfl rfl rfl ?_
    refine zLget vr_19_12 rfl (fun p4279 w4279 e4279 t4279 g4279 => ?_)
    cases e4279
    first | (rw [hc] at g4279; cases g4279) | (rw [(st_28_0 hS)] at g4279; cases g4279) | (rw [hr] at g4279; cases g4279) | skip
    refine zSb2 (f := fun x y => decide (y ≤ x)) (off := 91) (t := 106) vr_19_15 rfl rfl rfl (fun x4280 y4280 e4280 f4280 q4280 => ?_) (fun x4280 y4280 e4280 f4280 q4280 => ?_)
    · cases e4280
      cases f4280
      have c4280 := of_decide_eq_true q4280
      refine zSiload (m := 2) (k := 4) vr_19_106 rfl rfl rfl (fun x4281 e4281 => ?_)
      cases e4281
      refine zLiret vr_19_108 rfl (fun x4282 e4282 => ?_)
      cases e4282
      have y := c4280
      rw [i32_le, kk.2] at y
      have e : k = cnt.toNatClampNeg := by omega
      rw [← e, hD]
      exact ⟨rfl, rfl⟩
    · cases e4280
      cases f4280
      have c4280 := ndc q4280
      have hlt : k < cnt.toNatClampNeg := by
        have y := c4280
        rw [i32_le, kk.2] at y
        omega
      have hr : gF h 29 (Int32.ofNat k).toNatClampNeg = some (.ref (31 + k)) := by
        rw [kk.1]
        exact st_rule hS (by omega)
      refine zSaload (m := 1) (k := 0) vr_19_18 rfl rfl rfl ?_
      refine zLget vr_19_19 rfl (fun p4284 w4284 e4284 t4284 g4284 => ?_)
      cases e4284
      first | (rw [hc] at g4284; cases g4284) | (rw [(st_28_0 hS)] at g4284; cases g4284) | (rw [hr] at g4284; cases g4284) | skip
      refine zSiload (m := 2) (k := 6) vr_19_22 rfl rfl rfl (fun x4285 e4285 => ?_)
      cases e4285
      refine zLaald vr_19_24 rfl (fun p4286 x4286 w4286 e4286 f4286 c4286 t4286 g4286 => ?_)
      cases e4286
      cases f4286
      first | (rw [hc] at g4286; cases g4286) | (rw [(st_28_0 hS)] at g4286; cases g4286) | (rw [hr] at g4286; cases g4286) | skip
      refine zSastore (m := 2) (k := 7) vr_19_25 rfl rfl ?_
      show zL zrx zi _ 19 27 [(7, _), (6, _), (5, _), (4, _), (0, _), (1, _), (2, _), (3, _)] [] _ _ _
      refine zSaload (m := 2) (k := 7) vr_19_27 rfl rfl rfl ?_
      refine zLget vr_19_29 rfl (fun p4289 w4289 e4289 t4289 g4289 => ?_)
      cases e4289
      first | (rw [hc] at g4289; cases g4289) | (rw [(st_28_0 hS)] at g4289; cases g4289) | (rw [hr] at g4289; cases g4289) | skip
      refine zSiload (m := 1) (k := 1) vr_19_32 rfl rfl rfl (fun x4290 e4290 => ?_)
      cases e4290
      refine zSb2 (f := fun x y => decide (¬ x = y)) (off := 67) (t := 100) vr_19_33 rfl rfl rfl (fun x4291 y4291 e4291 f4291 q4291 => ?_) (fun x4291 y4291 e4291 f4291 q4291 => ?_)
      · cases e4291
        cases f4291
        have c4291 := of_decide_eq_true q4291
        refine zSiinc vr_19_100 rfl rfl (fun x4292 e4292 => ?_)
        cases e4292
        show zL zrx zi _ 19 103 [(6, _), (7, _), (5, _), (4, _), (0, _), (1, _), (2, _), (3, _)] [] _ _ _
        refine zSgo (t := 9) vr_19_103 rfl rfl ?_
        rw [ofNat_succ]
        refine zL_pm _ _ _ [(6, _), (5, _), (4, _), (0, _), (1, _), (2, _), (3, _), (7, _)] _ _ _ _ _ ⟨(List.forall_mem_cons.mpr ⟨List.mem_cons_self, (List.forall_mem_cons.mpr ⟨(List.mem_cons_of_mem _ (List.mem_cons_of_mem _ (List.mem_cons_of_mem _ (List.mem_cons_of_mem _ (List.mem_cons_of_mem _ (List.mem_cons_of_mem _ (List.mem_cons_of_mem _ List.mem_cons_self))))))), (List.forall_mem_cons.mpr ⟨(List.mem_cons_of_mem _ List.mem_cons_self), (List.forall_mem_cons.mpr ⟨(List.mem_cons_of_mem _ (List.mem_cons_of_mem _ List.mem_cons_self)), (List.forall_mem_cons.mpr ⟨(List.mem_cons_of_mem _ (List.mem_cons_of_mem _ (List.mem_cons_of_mem _ List.mem_cons_self))), (List.forall_mem_cons.mpr ⟨(List.mem_cons_of_mem _ (List.mem_cons_of_mem _ (List.mem_cons_of_mem _ (List.mem_cons_of_mem _ List.mem_cons_self)))), (List.forall_mem_cons.mpr ⟨(List.mem_cons_of_mem _ (List.mem_cons_of_mem _ (List.mem_cons_of_mem _ (List.mem_cons_of_mem _ (List.mem_cons_of_mem _ List.mem_cons_self))))), (List.forall_mem_cons.mpr ⟨(List.mem_cons_of_mem _ (List.mem_cons_of_mem _ (List.mem_cons_of_mem _ (List.mem_cons_of_mem _ (List.mem_cons_of_mem _ (List.mem_cons_of_mem _ List.mem_cons_self)))))), (fun _ h => absurd h List.not_mem_nil)⟩)⟩)⟩)⟩)⟩)⟩)⟩)⟩), show ([6, 5, 4, 0, 1, 2, 3, 7] : List Nat).Nodup by decide⟩ (C_ofP_loop hS hc h0 h40 n (k + 1) _ _ _ _ (by omega) ?_)
        first
          | exact (dC_n (fun z => by have y := z.1; rw [iv_of g4289] at y; exact c4291 y) rfl).trans hD
          | exact (dC_n (fun z => by have y := c4248; rw [if_pos z.2] at y; exact absurd y (by decide)) rfl).trans hD
          | (obtain rfl := (iv_of g4252).symm.trans (iv_of g4137); refine (dC_y ⟨by rw [iv_of g4289]; exact Decidable.not_not.mp c4291, by have y := c4248; by_cases z : okP (iv h (31 + k)) (iv h q 3) (iv h q 2) (iv h q 4) (iv h q 5) d; exact z; rw [if_neg z] at y; exact absurd rfl y⟩).trans ?_; rw [hD, iv_of g4252, iv_of g4142]; unfold stC; dsimp only; rw [if_pos (Int32.not_le.mp c3799)])
          | (have gd : ¬ (_ = s) := c3863; obtain rfl := (iv_of g4252).symm.trans (iv_of g4271); refine (dC_y ⟨by rw [iv_of g4289]; exact Decidable.not_not.mp c4291, by have y := c4248; by_cases z : okP (iv h (31 + k)) (iv h q 3) (iv h q 2) (iv h q 4) (iv h q 5) d; exact z; rw [if_neg z] at y; exact absurd rfl y⟩).trans ?_; rw [hD, iv_of g4252]; unfold stC; dsimp only; rw [if_neg (Int32.not_lt.mpr c3799), if_neg (fun z => gd z.1)])
          | (have gd : t = _ := c3699; obtain rfl := (iv_of g4252).symm.trans (iv_of g4271); refine (dC_y ⟨by rw [iv_of g4289]; exact Decidable.not_not.mp c4291, by have y := c4248; by_cases z : okP (iv h (31 + k)) (iv h q 3) (iv h q 2) (iv h q 4) (iv h q 5) d; exact z; rw [if_neg z] at y; exact absurd rfl y⟩).trans ?_; rw [hD, iv_of g4252, iv_of g3897]; unfold stC; dsimp only; rw [if_neg (Int32.not_lt.mpr c3799), if_neg (fun z => z.2 gd)])
          | (obtain rfl := (iv_of g4252).symm.trans (iv_of g4271); refine (dC_y ⟨by rw [iv_of g4289]; exact Decidable.not_not.mp c4291, by have y := c4248; by_cases z : okP (iv h (31 + k)) (iv h q 3) (iv h q 2) (iv h q 4) (iv h q 5) d; exact z; rw [if_neg z] at y; exact absurd rfl y⟩).trans ?_; rw [hD, iv_of g4252, iv_of g3897]; unfold stC; dsimp only; rw [if_neg (Int32.not_lt.mpr c3799), if_pos ⟨Decidable.not_not.mp c3863, c3699⟩])
      · cases e4291
        cases f4291
        have c4291 := ndc q4291
        refine zSaload (m := 2) (k := 7) vr_19_36 rfl rfl rfl ?_
        refine zSaload (m := 1) (k := 2) vr_19_38 rfl rfl rfl ?_
        refine zSiload (m := 1) (k := 3) vr_19_39 rfl rfl rfl (fun x4296 e4296 => ?_)
        cases e4296
        refine zScall vr_19_40 rfl rfl rfl (fun m4297 _ => C_isFor _ _ _ _ _ _) (fun v4297 h4297 u4297 q4297 => ?_) (fun E4297 h4297 u4297 q4297 => ?_)
        · obtain ⟨eh4297, z4297⟩ := q4297
          replace eh4297 := eh4297.symm
          subst eh4297
          cases z4297
          show zL zrx zi _ 19 43 [(7, _), (6, _), (5, _), (4, _), (0, _), (1, _), (2, _), (3, _)] [_] _ _ _
          refine zSb1 (f := fun x => decide (¬ x = 0)) (off := 6) (t := 49) vr_19_43 rfl rfl rfl (fun x4298 e4298 q4298 => ?_) (fun x4298 e4298 q4298 => ?_)
          · cases e4298
            have c4298 := of_decide_eq_true q4298
            refine zSaload (m := 2) (k := 7) vr_19_49 rfl rfl rfl ?_
            refine zLget vr_19_51 rfl (fun p4300 w4300 e4300 t4300 g4300 => ?_)
            cases e4300
            first | (rw [hc] at g4300; cases g4300) | (rw [(st_28_0 hS)] at g4300; cases g4300) | (rw [hr] at g4300; cases g4300) | skip
            refine zSiload (m := 2) (k := 5) vr_19_54 rfl rfl rfl (fun x4301 e4301 => ?_)
            cases e4301
            refine zSb2 (f := fun x y => decide (x ≤ y)) (off := 20) (t := 76) vr_19_56 rfl rfl rfl (fun x4302 y4302 e4302 f4302 q4302 => ?_) (fun x4302 y4302 e4302 f4302 q4302 => ?_)
            · cases e4302
              cases f4302
              have c4302 := of_decide_eq_true q4302
              refine zSaload (m := 2) (k := 7) vr_19_76 rfl rfl rfl ?_
              refine zLget vr_19_78 rfl (fun p4304 w4304 e4304 t4304 g4304 => ?_)
              cases e4304
              first | (rw [hc] at g4304; cases g4304) | (rw [(st_28_0 hS)] at g4304; cases g4304) | (rw [hr] at g4304; cases g4304) | skip
              refine zSiload (m := 2) (k := 5) vr_19_81 rfl rfl rfl (fun x4305 e4305 => ?_)
              cases e4305
              refine zSb2 (f := fun x y => decide (¬ x = y)) (off := 17) (t := 100) vr_19_83 rfl rfl rfl (fun x4306 y4306 e4306 f4306 q4306 => ?_) (fun x4306 y4306 e4306 f4306 q4306 => ?_)
              · cases e4306
                cases f4306
                have c4306 := of_decide_eq_true q4306
                refine zSiinc vr_19_100 rfl rfl (fun x4307 e4307 => ?_)
                cases e4307
                show zL zrx zi _ 19 103 [(6, _), (7, _), (5, _), (4, _), (0, _), (1, _), (2, _), (3, _)] [] _ _ _
                refine zSgo (t := 9) vr_19_103 rfl rfl ?_
                rw [ofNat_succ]
                refine zL_pm _ _ _ [(6, _), (5, _), (4, _), (0, _), (1, _), (2, _), (3, _), (7, _)] _ _ _ _ _ ⟨(List.forall_mem_cons.mpr ⟨List.mem_cons_self, (List.forall_mem_cons.mpr ⟨(List.mem_cons_of_mem _ (List.mem_cons_of_mem _ (List.mem_cons_of_mem _ (List.mem_cons_of_mem _ (List.mem_cons_of_mem _ (List.mem_cons_of_mem _ (List.mem_cons_of_mem _ List.mem_cons_self))))))), (List.forall_mem_cons.mpr ⟨(List.mem_cons_of_mem _ List.mem_cons_self), (List.forall_mem_cons.mpr ⟨(List.mem_cons_of_mem _ (List.mem_cons_of_mem _ List.mem_cons_self)), (List.forall_mem_cons.mpr ⟨(List.mem_cons_of_mem _ (List.mem_cons_of_mem _ (List.mem_cons_of_mem _ List.mem_cons_self))), (List.forall_mem_cons.mpr ⟨(List.mem_cons_of_mem _ (List.mem_cons_of_mem _ (List.mem_cons_of_mem _ (List.mem_cons_of_mem _ List.mem_cons_self)))), (List.forall_mem_cons.mpr ⟨(List.mem_cons_of_mem _ (List.mem_cons_of_mem _ (List.mem_cons_of_mem _ (List.mem_cons_of_mem _ (List.mem_cons_of_mem _ List.mem_cons_self))))), (List.forall_mem_cons.mpr ⟨(List.mem_cons_of_mem _ (List.mem_cons_of_mem _ (List.mem_cons_of_mem _ (List.mem_cons_of_mem _ (List.mem_cons_of_mem _ (List.mem_cons_of_mem _ List.mem_cons_self)))))), (fun _ h => absurd h List.not_mem_nil)⟩)⟩)⟩)⟩)⟩)⟩)⟩)⟩), show ([6, 5, 4, 0, 1, 2, 3, 7] : List Nat).Nodup by decide⟩ (C_ofP_loop hS hc h0 h40 n (k + 1) _ _ _ _ (by omega) ?_)
                first
                  | exact (dC_n (fun z => by have y := z.1; rw [iv_of g4289] at y; exact c4291 y) rfl).trans hD
                  | exact (dC_n (fun z => by have y := c4298; rw [if_pos z.2] at y; exact absurd y (by decide)) rfl).trans hD
                  | (obtain rfl := (iv_of g4300).symm.trans (iv_of g4137); refine (dC_y ⟨by rw [iv_of g4289]; exact Decidable.not_not.mp c4291, by have y := c4298; by_cases z : okP (iv h (31 + k)) (iv h q 3) (iv h q 2) (iv h q 4) (iv h q 5) d; exact z; rw [if_neg z] at y; exact absurd rfl y⟩).trans ?_; rw [hD, iv_of g4300, iv_of g4142]; unfold stC; dsimp only; rw [if_pos (Int32.not_le.mp c4302)])
                  | (have gd : ¬ (_ = s) := c4306; obtain rfl := (iv_of g4300).symm.trans (iv_of g4304); refine (dC_y ⟨by rw [iv_of g4289]; exact Decidable.not_not.mp c4291, by have y := c4298; by_cases z : okP (iv h (31 + k)) (iv h q 3) (iv h q 2) (iv h q 4) (iv h q 5) d; exact z; rw [if_neg z] at y; exact absurd rfl y⟩).trans ?_; rw [hD, iv_of g4300]; unfold stC; dsimp only; rw [if_neg (Int32.not_lt.mpr c4302), if_neg (fun z => gd z.1)])
                  | (have gd : t = _ := c3699; obtain rfl := (iv_of g4300).symm.trans (iv_of g4304); refine (dC_y ⟨by rw [iv_of g4289]; exact Decidable.not_not.mp c4291, by have y := c4298; by_cases z : okP (iv h (31 + k)) (iv h q 3) (iv h q 2) (iv h q 4) (iv h q 5) d; exact z; rw [if_neg z] at y; exact absurd rfl y⟩).trans ?_; rw [hD, iv_of g4300, iv_of g3897]; unfold stC; dsimp only; rw [if_neg (Int32.not_lt.mpr c4302), if_neg (fun z => z.2 gd)])
                  | (obtain rfl := (iv_of g4300).symm.trans (iv_of g4304); refine (dC_y ⟨by rw [iv_of g4289]; exact Decidable.not_not.mp c4291, by have y := c4298; by_cases z : okP (iv h (31 + k)) (iv h q 3) (iv h q 2) (iv h q 4) (iv h q 5) d; exact z; rw [if_neg z] at y; exact absurd rfl y⟩).trans ?_; rw [hD, iv_of g4300, iv_of g3897]; unfold stC; dsimp only; rw [if_neg (Int32.not_lt.mpr c4302), if_pos ⟨Decidable.not_not.mp c4306, c3699⟩])
              · cases e4306
                cases f4306
                have c4306 := ndc q4306
                refine zSiload (m := 2) (k := 4) vr_19_86 rfl rfl rfl (fun x4309 e4309 => ?_)
                cases e4309
                refine zSaload (m := 2) (k := 7) vr_19_88 rfl rfl rfl ?_
                refine zLget vr_19_90 rfl (fun p4311 w4311 e4311 t4311 g4311 => ?_)
                cases e4311
                first | (rw [hc] at g4311; cases g4311) | (rw [(st_28_0 hS)] at g4311; cases g4311) | (rw [hr] at g4311; cases g4311) | skip
                refine zSb2 (f := fun x y => decide (x = y)) (off := 7) (t := 100) vr_19_93 rfl rfl rfl (fun x4312 y4312 e4312 f4312 q4312 => ?_) (fun x4312 y4312 e4312 f4312 q4312 => ?_)
                · cases e4312
                  cases f4312
                  have c4312 := of_decide_eq_true q4312
                  refine zSiinc vr_19_100 rfl rfl (fun x4313 e4313 => ?_)
                  cases e4313
                  show zL zrx zi _ 19 103 [(6, _), (7, _), (5, _), (4, _), (0, _), (1, _), (2, _), (3, _)] [] _ _ _
                  refine zSgo (t := 9) vr_19_103 rfl rfl ?_
                  rw [ofNat_succ]
                  refine zL_pm _ _ _ [(6, _), (5, _), (4, _), (0, _), (1, _), (2, _), (3, _), (7, _)] _ _ _ _ _ ⟨(List.forall_mem_cons.mpr ⟨List.mem_cons_self, (List.forall_mem_cons.mpr ⟨(List.mem_cons_of_mem _ (List.mem_cons_of_mem _ (List.mem_cons_of_mem _ (List.mem_cons_of_mem _ (List.mem_cons_of_mem _ (List.mem_cons_of_mem _ (List.mem_cons_of_mem _ List.mem_cons_self))))))), (List.forall_mem_cons.mpr ⟨(List.mem_cons_of_mem _ List.mem_cons_self), (List.forall_mem_cons.mpr ⟨(List.mem_cons_of_mem _ (List.mem_cons_of_mem _ List.mem_cons_self)), (List.forall_mem_cons.mpr ⟨(List.mem_cons_of_mem _ (List.mem_cons_of_mem _ (List.mem_cons_of_mem _ List.mem_cons_self))), (List.forall_mem_cons.mpr ⟨(List.mem_cons_of_mem _ (List.mem_cons_of_mem _ (List.mem_cons_of_mem _ (List.mem_cons_of_mem _ List.mem_cons_self)))), (List.forall_mem_cons.mpr ⟨(List.mem_cons_of_mem _ (List.mem_cons_of_mem _ (List.mem_cons_of_mem _ (List.mem_cons_of_mem _ (List.mem_cons_of_mem _ List.mem_cons_self))))), (List.forall_mem_cons.mpr ⟨(List.mem_cons_of_mem _ (List.mem_cons_of_mem _ (List.mem_cons_of_mem _ (List.mem_cons_of_mem _ (List.mem_cons_of_mem _ (List.mem_cons_of_mem _ List.mem_cons_self)))))), (fun _ h => absurd h List.not_mem_nil)⟩)⟩)⟩)⟩)⟩)⟩)⟩)⟩), show ([6, 5, 4, 0, 1, 2, 3, 7] : List Nat).Nodup by decide⟩ (C_ofP_loop hS hc h0 h40 n (k + 1) _ _ _ _ (by omega) ?_)
                  first
                    | exact (dC_n (fun z => by have y := z.1; rw [iv_of g4289] at y; exact c4291 y) rfl).trans hD
                    | exact (dC_n (fun z => by have y := c4298; rw [if_pos z.2] at y; exact absurd y (by decide)) rfl).trans hD
                    | (obtain rfl := (iv_of g4300).symm.trans (iv_of g4137); refine (dC_y ⟨by rw [iv_of g4289]; exact Decidable.not_not.mp c4291, by have y := c4298; by_cases z : okP (iv h (31 + k)) (iv h q 3) (iv h q 2) (iv h q 4) (iv h q 5) d; exact z; rw [if_neg z] at y; exact absurd rfl y⟩).trans ?_; rw [hD, iv_of g4300, iv_of g4142]; unfold stC; dsimp only; rw [if_pos (Int32.not_le.mp c4302)])
                    | (have gd : ¬ (_ = s) := c4306; obtain rfl := (iv_of g4300).symm.trans (iv_of g4304); refine (dC_y ⟨by rw [iv_of g4289]; exact Decidable.not_not.mp c4291, by have y := c4298; by_cases z : okP (iv h (31 + k)) (iv h q 3) (iv h q 2) (iv h q 4) (iv h q 5) d; exact z; rw [if_neg z] at y; exact absurd rfl y⟩).trans ?_; rw [hD, iv_of g4300]; unfold stC; dsimp only; rw [if_neg (Int32.not_lt.mpr c4302), if_neg (fun z => gd z.1)])
                    | (have gd : t = _ := c4312; obtain rfl := (iv_of g4300).symm.trans (iv_of g4304); refine (dC_y ⟨by rw [iv_of g4289]; exact Decidable.not_not.mp c4291, by have y := c4298; by_cases z : okP (iv h (31 + k)) (iv h q 3) (iv h q 2) (iv h q 4) (iv h q 5) d; exact z; rw [if_neg z] at y; exact absurd rfl y⟩).trans ?_; rw [hD, iv_of g4300, iv_of g4311]; unfold stC; dsimp only; rw [if_neg (Int32.not_lt.mpr c4302), if_neg (fun z => z.2 gd)])
                    | (obtain rfl := (iv_of g4300).symm.trans (iv_of g4304); refine (dC_y ⟨by rw [iv_of g4289]; exact Decidable.not_not.mp c4291, by have y := c4298; by_cases z : okP (iv h (31 + k)) (iv h q 3) (iv h q 2) (iv h q 4) (iv h q 5) d; exact z; rw [if_neg z] at y; exact absurd rfl y⟩).trans ?_; rw [hD, iv_of g4300, iv_of g4311]; unfold stC; dsimp only; rw [if_neg (Int32.not_lt.mpr c4302), if_pos ⟨Decidable.not_not.mp c4306, c4312⟩])
                · cases e4312
                  cases f4312
                  have c4312 := ndc q4312
                  refine zSp0 (pc' := 98) (st' := .int (-2) :: _) vr_19_96 rfl rfl ?_
                  refine zSistore (m := 2) (k := 4) vr_19_98 rfl rfl (fun x4316 e4316 => ?_)
                  cases e4316
                  show zL zrx zi _ 19 100 [(4, _), (7, _), (6, _), (5, _), (0, _), (1, _), (2, _), (3, _)] [] _ _ _
                  refine zSiinc vr_19_100 rfl rfl (fun x4317 e4317 => ?_)
                  cases e4317
                  show zL zrx zi _ 19 103 [(6, _), (4, _), (7, _), (5, _), (0, _), (1, _), (2, _), (3, _)] [] _ _ _
                  refine zSgo (t := 9) vr_19_103 rfl rfl ?_
                  rw [ofNat_succ]
                  refine zL_pm _ _ _ [(6, _), (5, _), (4, _), (0, _), (1, _), (2, _), (3, _), (7, _)] _ _ _ _ _ ⟨(List.forall_mem_cons.mpr ⟨List.mem_cons_self, (List.forall_mem_cons.mpr ⟨(List.mem_cons_of_mem _ (List.mem_cons_of_mem _ List.mem_cons_self)), (List.forall_mem_cons.mpr ⟨(List.mem_cons_of_mem _ (List.mem_cons_of_mem _ (List.mem_cons_of_mem _ (List.mem_cons_of_mem _ (List.mem_cons_of_mem _ (List.mem_cons_of_mem _ (List.mem_cons_of_mem _ List.mem_cons_self))))))), (List.forall_mem_cons.mpr ⟨(List.mem_cons_of_mem _ List.mem_cons_self), (List.forall_mem_cons.mpr ⟨(List.mem_cons_of_mem _ (List.mem_cons_of_mem _ (List.mem_cons_of_mem _ List.mem_cons_self))), (List.forall_mem_cons.mpr ⟨(List.mem_cons_of_mem _ (List.mem_cons_of_mem _ (List.mem_cons_of_mem _ (List.mem_cons_of_mem _ List.mem_cons_self)))), (List.forall_mem_cons.mpr ⟨(List.mem_cons_of_mem _ (List.mem_cons_of_mem _ (List.mem_cons_of_mem _ (List.mem_cons_of_mem _ (List.mem_cons_of_mem _ List.mem_cons_self))))), (List.forall_mem_cons.mpr ⟨(List.mem_cons_of_mem _ (List.mem_cons_of_mem _ (List.mem_cons_of_mem _ (List.mem_cons_of_mem _ (List.mem_cons_of_mem _ (List.mem_cons_of_mem _ List.mem_cons_self)))))), (fun _ h => absurd h List.not_mem_nil)⟩)⟩)⟩)⟩)⟩)⟩)⟩)⟩), show ([6, 5, 4, 0, 1, 2, 3, 7] : List Nat).Nodup by decide⟩ (C_ofP_loop hS hc h0 h40 n (k + 1) _ _ _ _ (by omega) ?_)
                  first
                    | exact (dC_n (fun z => by have y := z.1; rw [iv_of g4289] at y; exact c4291 y) rfl).trans hD
                    | exact (dC_n (fun z => by have y := c4298; rw [if_pos z.2] at y; exact absurd y (by decide)) rfl).trans hD
                    | (obtain rfl := (iv_of g4300).symm.trans (iv_of g4137); refine (dC_y ⟨by rw [iv_of g4289]; exact Decidable.not_not.mp c4291, by have y := c4298; by_cases z : okP (iv h (31 + k)) (iv h q 3) (iv h q 2) (iv h q 4) (iv h q 5) d; exact z; rw [if_neg z] at y; exact absurd rfl y⟩).trans ?_; rw [hD, iv_of g4300, iv_of g4142]; unfold stC; dsimp only; rw [if_pos (Int32.not_le.mp c4302)])
                    | (have gd : ¬ (_ = s) := c4306; obtain rfl := (iv_of g4300).symm.trans (iv_of g4304); refine (dC_y ⟨by rw [iv_of g4289]; exact Decidable.not_not.mp c4291, by have y := c4298; by_cases z : okP (iv h (31 + k)) (iv h q 3) (iv h q 2) (iv h q 4) (iv h q 5) d; exact z; rw [if_neg z] at y; exact absurd rfl y⟩).trans ?_; rw [hD, iv_of g4300]; unfold stC; dsimp only; rw [if_neg (Int32.not_lt.mpr c4302), if_neg (fun z => gd z.1)])
                    | (have gd : t = _ := c4312; obtain rfl := (iv_of g4300).symm.trans (iv_of g4304); refine (dC_y ⟨by rw [iv_of g4289]; exact Decidable.not_not.mp c4291, by have y := c4298; by_cases z : okP (iv h (31 + k)) (iv h q 3) (iv h q 2) (iv h q 4) (iv h q 5) d; exact z; rw [if_neg z] at y; exact absurd rfl y⟩).trans ?_; rw [hD, iv_of g4300, iv_of g4311]; unfold stC; dsimp only; rw [if_neg (Int32.not_lt.mpr c4302), if_neg (fun z => z.2 gd)])
                    | (obtain rfl := (iv_of g4300).symm.trans (iv_of g4304); refine (dC_y ⟨by rw [iv_of g4289]; exact Decidable.not_not.mp c4291, by have y := c4298; by_cases z : okP (iv h (31 + k)) (iv h q 3) (iv h q 2) (iv h q 4) (iv h q 5) d; exact z; rw [if_neg z] at y; exact absurd rfl y⟩).trans ?_; rw [hD, iv_of g4300, iv_of g4311]; unfold stC; dsimp only; rw [if_neg (Int32.not_lt.mpr c4302), if_pos ⟨Decidable.not_not.mp c4306, c4312⟩])
            · cases e4302
              cases f4302
              have c4302 := ndc q4302
              refine zSaload (m := 2) (k := 7) vr_19_59 rfl rfl rfl ?_
              refine zLget vr_19_61 rfl (fun p4320 w4320 e4320 t4320 g4320 => ?_)
              cases e4320
              first | (rw [hc] at g4320; cases g4320) | (rw [(st_28_0 hS)] at g4320; cases g4320) | (rw [hr] at g4320; cases g4320) | skip
              refine zSistore (m := 2) (k := 5) vr_19_64 rfl rfl (fun x4321 e4321 => ?_)
              cases e4321
              show zL zrx zi _ 19 66 [(5, _), (7, _), (6, _), (4, _), (0, _), (1, _), (2, _), (3, _)] [] _ _ _
              refine zSaload (m := 2) (k := 7) vr_19_66 rfl rfl rfl ?_
              refine zLget vr_19_68 rfl (fun p4323 w4323 e4323 t4323 g4323 => ?_)
              cases e4323
              first | (rw [hc] at g4323; cases g4323) | (rw [(st_28_0 hS)] at g4323; cases g4323) | (rw [hr] at g4323; cases g4323) | skip
              refine zSistore (m := 2) (k := 4) vr_19_71 rfl rfl (fun x4324 e4324 => ?_)
              cases e4324
              show zL zrx zi _ 19 73 [(4, _), (5, _), (7, _), (6, _), (0, _), (1, _), (2, _), (3, _)] [] _ _ _
              refine zSgo (t := 100) vr_19_73 rfl rfl ?_
              refine zSiinc vr_19_100 rfl rfl (fun x4326 e4326 => ?_)
              cases e4326
              show zL zrx zi _ 19 103 [(6, _), (4, _), (5, _), (7, _), (0, _), (1, _), (2, _), (3, _)] [] _ _ _
              refine zSgo (t := 9) vr_19_103 rfl rfl ?_
              rw [ofNat_succ]
              refine zL_pm _ _ _ [(6, _), (5, _), (4, _), (0, _), (1, _), (2, _), (3, _), (7, _)] _ _ _ _ _ ⟨(List.forall_mem_cons.mpr ⟨List.mem_cons_self, (List.forall_mem_cons.mpr ⟨(List.mem_cons_of_mem _ (List.mem_cons_of_mem _ List.mem_cons_self)), (List.forall_mem_cons.mpr ⟨(List.mem_cons_of_mem _ List.mem_cons_self), (List.forall_mem_cons.mpr ⟨(List.mem_cons_of_mem _ (List.mem_cons_of_mem _ (List.mem_cons_of_mem _ (List.mem_cons_of_mem _ (List.mem_cons_of_mem _ (List.mem_cons_of_mem _ (List.mem_cons_of_mem _ List.mem_cons_self))))))), (List.forall_mem_cons.mpr ⟨(List.mem_cons_of_mem _ (List.mem_cons_of_mem _ (List.mem_cons_of_mem _ List.mem_cons_self))), (List.forall_mem_cons.mpr ⟨(List.mem_cons_of_mem _ (List.mem_cons_of_mem _ (List.mem_cons_of_mem _ (List.mem_cons_of_mem _ List.mem_cons_self)))), (List.forall_mem_cons.mpr ⟨(List.mem_cons_of_mem _ (List.mem_cons_of_mem _ (List.mem_cons_of_mem _ (List.mem_cons_of_mem _ (List.mem_cons_of_mem _ List.mem_cons_self))))), (List.forall_mem_cons.mpr ⟨(List.mem_cons_of_mem _ (List.mem_cons_of_mem _ (List.mem_cons_of_mem _ (List.mem_cons_of_mem _ (List.mem_cons_of_mem _ (List.mem_cons_of_mem _ List.mem_cons_self)))))), (fun _ h => absurd h List.not_mem_nil)⟩)⟩)⟩)⟩)⟩)⟩)⟩)⟩), show ([6, 5, 4, 0, 1, 2, 3, 7] : List Nat).Nodup by decide⟩ (C_ofP_loop hS hc h0 h40 n (k + 1) _ _ _ _ (by omega) ?_)
              first
                | exact (dC_n (fun z => by have y := z.1; rw [iv_of g4289] at y; exact c4291 y) rfl).trans hD
                | exact (dC_n (fun z => by have y := c4298; rw [if_pos z.2] at y; exact absurd y (by decide)) rfl).trans hD
                | (obtain rfl := (iv_of g4300).symm.trans (iv_of g4320); refine (dC_y ⟨by rw [iv_of g4289]; exact Decidable.not_not.mp c4291, by have y := c4298; by_cases z : okP (iv h (31 + k)) (iv h q 3) (iv h q 2) (iv h q 4) (iv h q 5) d; exact z; rw [if_neg z] at y; exact absurd rfl y⟩).trans ?_; rw [hD, iv_of g4300, iv_of g4323]; unfold stC; dsimp only; rw [if_pos (Int32.not_le.mp c4302)])
                | (have gd : ¬ (_ = s) := c4306; obtain rfl := (iv_of g4300).symm.trans (iv_of g4304); refine (dC_y ⟨by rw [iv_of g4289]; exact Decidable.not_not.mp c4291, by have y := c4298; by_cases z : okP (iv h (31 + k)) (iv h q 3) (iv h q 2) (iv h q 4) (iv h q 5) d; exact z; rw [if_neg z] at y; exact absurd rfl y⟩).trans ?_; rw [hD, iv_of g4300]; unfold stC; dsimp only; rw [if_neg (Int32.not_lt.mpr c4302), if_neg (fun z => gd z.1)])
                | (have gd : t = _ := c4312; obtain rfl := (iv_of g4300).symm.trans (iv_of g4304); refine (dC_y ⟨by rw [iv_of g4289]; exact Decidable.not_not.mp c4291, by have y := c4298; by_cases z : okP (iv h (31 + k)) (iv h q 3) (iv h q 2) (iv h q 4) (iv h q 5) d; exact z; rw [if_neg z] at y; exact absurd rfl y⟩).trans ?_; rw [hD, iv_of g4300, iv_of g4311]; unfold stC; dsimp only; rw [if_neg (Int32.not_lt.mpr c4302), if_neg (fun z => z.2 gd)])
                | (obtain rfl := (iv_of g4300).symm.trans (iv_of g4304); refine (dC_y ⟨by rw [iv_of g4289]; exact Decidable.not_not.mp c4291, by have y := c4298; by_cases z : okP (iv h (31 + k)) (iv h q 3) (iv h q 2) (iv h q 4) (iv h q 5) d; exact z; rw [if_neg z] at y; exact absurd rfl y⟩).trans ?_; rw [hD, iv_of g4300, iv_of g4311]; unfold stC; dsimp only; rw [if_neg (Int32.not_lt.mpr c4302), if_pos ⟨Decidable.not_not.mp c4306, c4312⟩])
          · cases e4298
            have c4298 := ndc q4298
            refine zSgo (t := 100) vr_19_46 rfl rfl ?_
            refine zSiinc vr_19_100 rfl rfl (fun x4329 e4329 => ?_)
            cases e4329
            show zL zrx zi _ 19 103 [(6, _), (7, _), (5, _), (4, _), (0, _), (1, _), (2, _), (3, _)] [] _ _ _
            refine zSgo (t := 9) vr_19_103 rfl rfl ?_
            rw [ofNat_succ]
            refine zL_pm _ _ _ [(6, _), (5, _), (4, _), (0, _), (1, _), (2, _), (3, _), (7, _)] _ _ _ _ _ ⟨(List.forall_mem_cons.mpr ⟨List.mem_cons_self, (List.forall_mem_cons.mpr ⟨(List.mem_cons_of_mem _ (List.mem_cons_of_mem _ (List.mem_cons_of_mem _ (List.mem_cons_of_mem _ (List.mem_cons_of_mem _ (List.mem_cons_of_mem _ (List.mem_cons_of_mem _ List.mem_cons_self))))))), (List.forall_mem_cons.mpr ⟨(List.mem_cons_of_mem _ List.mem_cons_self), (List.forall_mem_cons.mpr ⟨(List.mem_cons_of_mem _ (List.mem_cons_of_mem _ List.mem_cons_self)), (List.forall_mem_cons.mpr ⟨(List.mem_cons_of_mem _ (List.mem_cons_of_mem _ (List.mem_cons_of_mem _ List.mem_cons_self))), (List.forall_mem_cons.mpr ⟨(List.mem_cons_of_mem _ (List.mem_cons_of_mem _ (List.mem_cons_of_mem _ (List.mem_cons_of_mem _ List.mem_cons_self)))), (List.forall_mem_cons.mpr ⟨(List.mem_cons_of_mem _ (List.mem_cons_of_mem _ (List.mem_cons_of_mem _ (List.mem_cons_of_mem _ (List.mem_cons_of_mem _ List.mem_cons_self))))), (List.forall_mem_cons.mpr ⟨(List.mem_cons_of_mem _ (List.mem_cons_of_mem _ (List.mem_cons_of_mem _ (List.mem_cons_of_mem _ (List.mem_cons_of_mem _ (List.mem_cons_of_mem _ List.mem_cons_self)))))), (fun _ h => absurd h List.not_mem_nil)⟩)⟩)⟩)⟩)⟩)⟩)⟩)⟩), show ([6, 5, 4, 0, 1, 2, 3, 7] : List Nat).Nodup by decide⟩ (C_ofP_loop hS hc h0 h40 n (k + 1) _ _ _ _ (by omega) ?_)
            first
              | exact (dC_n (fun z => by have y := z.1; rw [iv_of g4289] at y; exact c4291 y) rfl).trans hD
              | exact (dC_n (fun z => by have y := c4298; rw [if_pos z.2] at y; exact absurd y (by decide)) rfl).trans hD
              | (obtain rfl := (iv_of g4300).symm.trans (iv_of g4320); refine (dC_y ⟨by rw [iv_of g4289]; exact Decidable.not_not.mp c4291, by have y := c4298; by_cases z : okP (iv h (31 + k)) (iv h q 3) (iv h q 2) (iv h q 4) (iv h q 5) d; exact z; rw [if_neg z] at y; exact absurd rfl y⟩).trans ?_; rw [hD, iv_of g4300, iv_of g4323]; unfold stC; dsimp only; rw [if_pos (Int32.not_le.mp c4302)])
              | (have gd : ¬ (_ = s) := c4306; obtain rfl := (iv_of g4300).symm.trans (iv_of g4304); refine (dC_y ⟨by rw [iv_of g4289]; exact Decidable.not_not.mp c4291, by have y := c4298; by_cases z : okP (iv h (31 + k)) (iv h q 3) (iv h q 2) (iv h q 4) (iv h q 5) d; exact z; rw [if_neg z] at y; exact absurd rfl y⟩).trans ?_; rw [hD, iv_of g4300]; unfold stC; dsimp only; rw [if_neg (Int32.not_lt.mpr c4302), if_neg (fun z => gd z.1)])
              | (have gd : t = _ := c4312; obtain rfl := (iv_of g4300).symm.trans (iv_of g4304); refine (dC_y ⟨by rw [iv_of g4289]; exact Decidable.not_not.mp c4291, by have y := c4298; by_cases z : okP (iv h (31 + k)) (iv h q 3) (iv h q 2) (iv h q 4) (iv h q 5) d; exact z; rw [if_neg z] at y; exact absurd rfl y⟩).trans ?_; rw [hD, iv_of g4300, iv_of g4311]; unfold stC; dsimp only; rw [if_neg (Int32.not_lt.mpr c4302), if_neg (fun z => z.2 gd)])
              | (obtain rfl := (iv_of g4300).symm.trans (iv_of g4304); refine (dC_y ⟨by rw [iv_of g4289]; exact Decidable.not_not.mp c4291, by have y := c4298; by_cases z : okP (iv h (31 + k)) (iv h q 3) (iv h q 2) (iv h q 4) (iv h q 5) d; exact z; rw [if_neg z] at y; exact absurd rfl y⟩).trans ?_; rw [hD, iv_of g4300, iv_of g4311]; unfold stC; dsimp only; rw [if_neg (Int32.not_lt.mpr c4302), if_pos ⟨Decidable.not_not.mp c4306, c4312⟩])
        · obtain ⟨-, z⟩ := q4297
          cases z
theorem C_ofParish (n : Nat) (par d : Int32) (q : Nat) (h : List zC) (u : Nat) {cnt : Int32} (hS : Stc h) (hc : gF h 28 2 = some (.int cnt)) (h0 : 0 ≤ cnt.toInt) (h40 : cnt.toInt ≤ 40) : zL zrx zi n 19 0 [(0, .ref 28), (1, .int par), (2, .ref q), (3, .int d)] [] h u (fun o h2 _ => h2 = h ∧ o = .inl (some (.int (cuC (dC h par (iv h q 3) (iv h q 2) (iv h q 4) (iv h q 5) d) cnt.toNatClampNeg).1))) := by
  refine zSp0 (pc' := 1) (st' := .int (-1) :: _) vr_19_0 rfl rfl ?_
  refine zSistore (m := 2) (k := 4) vr_19_1 rfl rfl (fun x4332 e4332 => ?_)
  cases e4332
  show zL zrx zi _ 19 3 [(4, _), (0, _), (1, _), (2, _), (3, _)] [] _ _ _
  refine zSp0 (pc' := 4) (st' := .int (0) :: _) vr_19_3 rfl rfl ?_
  refine zSistore (m := 2) (k := 5) vr_19_4 rfl rfl (fun x4334 e4334 => ?_)
  cases e4334
  show zL zrx zi _ 19 6 [(5, _), (4, _), (0, _), (1, _), (2, _), (3, _)] [] _ _ _
  refine zSp0 (pc' := 7) (st' := .int (0) :: _) vr_19_6 rfl rfl ?_
  refine zSistore (m := 2) (k := 6) vr_19_7 rfl rfl (fun x4336 e4336 => ?_)
  cases e4336
  show zL zrx zi _ 19 9 [(6, _), (5, _), (4, _), (0, _), (1, _), (2, _), (3, _)] [] _ _ _
  refine zL_pm _ _ _ [(6, _), (5, _), (4, _), (0, _), (1, _), (2, _), (3, _), (7, _)] _ _ _ _ _ ⟨(List.forall_mem_cons.mpr ⟨List.mem_cons_self, (List.forall_mem_cons.mpr ⟨(List.mem_cons_of_mem _ List.mem_cons_self), (List.forall_mem_cons.mpr ⟨(List.mem_cons_of_mem _ (List.mem_cons_of_mem _ List.mem_cons_self)), (List.forall_mem_cons.mpr ⟨(List.mem_cons_of_mem _ (List.mem_cons_of_mem _ (List.mem_cons_of_mem _ List.mem_cons_self))), (List.forall_mem_cons.mpr ⟨(List.mem_cons_of_mem _ (List.mem_cons_of_mem _ (List.mem_cons_of_mem _ (List.mem_cons_of_mem _ List.mem_cons_self)))), (List.forall_mem_cons.mpr ⟨(List.mem_cons_of_mem _ (List.mem_cons_of_mem _ (List.mem_cons_of_mem _ (List.mem_cons_of_mem _ (List.mem_cons_of_mem _ List.mem_cons_self))))), (List.forall_mem_cons.mpr ⟨(List.mem_cons_of_mem _ (List.mem_cons_of_mem _ (List.mem_cons_of_mem _ (List.mem_cons_of_mem _ (List.mem_cons_of_mem _ (List.mem_cons_of_mem _ List.mem_cons_self)))))), (fun _ h => absurd h List.not_mem_nil)⟩)⟩)⟩)⟩)⟩)⟩)⟩), show ([6, 5, 4, 0, 1, 2, 3, 7] : List Nat).Nodup by decide⟩ (C_ofP_loop hS hc h0 h40 _ 0 0 (-1) .null _ (Nat.zero_le _) rfl)
theorem C_has (n : Nat) (x y : Int32) (h : List zC) (u : Nat) : zL zrx zi n 133 0 [(0, .int x), (1, .int y)] [] h u (fun o h2 _ => h2 = h ∧ o = .inl (some (.int (if x >>> (y &&& 31) &&& 1 = 1 then 1 else 0)))) := by
  refine zSiload (m := 1) (k := 0) vr_133_0 rfl rfl rfl (fun x4337 e4337 => ?_)
  cases e4337
  refine zSiload (m := 1) (k := 1) vr_133_1 rfl rfl rfl (fun x4338 e4338 => ?_)
  cases e4338
  refine zS2 (f := fun x y => .int (x >>> (y &&& 31))) vr_133_2 rfl rfl (fun x4339 y4339 e4339 f4339 => ?_)
  cases e4339
  cases f4339
  refine zSp0 (pc' := 4) (st' := .int (1) :: _) vr_133_3 rfl rfl ?_
  refine zS2 (f := fun x y => .int (x &&& y)) vr_133_4 rfl rfl (fun x4341 y4341 e4341 f4341 => ?_)
  cases e4341
  cases f4341
  refine zSp0 (pc' := 6) (st' := .int (1) :: _) vr_133_5 rfl rfl ?_
  refine zSb2 (f := fun x y => decide (¬ x = y)) (off := 7) (t := 13) vr_133_6 rfl rfl rfl (fun x4343 y4343 e4343 f4343 q4343 => ?_) (fun x4343 y4343 e4343 f4343 q4343 => ?_)
  · cases e4343
    cases f4343
    have c4343 := of_decide_eq_true q4343
    refine zSp0 (pc' := 14) (st' := .int (0) :: _) vr_133_13 rfl rfl ?_
    refine zLiret vr_133_14 rfl (fun x4345 e4345 => ?_)
    cases e4345
    first
      | exact ⟨rfl, congrArg (fun z : Int32 => Sum.inl (some (Value.int z))) (if_pos (Decidable.not_not.mp c4343)).symm⟩
      | exact ⟨rfl, congrArg (fun z : Int32 => Sum.inl (some (Value.int z))) (if_neg c4343).symm⟩
  · cases e4343
    cases f4343
    have c4343 := ndc q4343
    refine zSp0 (pc' := 10) (st' := .int (1) :: _) vr_133_9 rfl rfl ?_
    refine zSgo (t := 14) vr_133_10 rfl rfl ?_
    refine zLiret vr_133_14 rfl (fun x4348 e4348 => ?_)
    cases e4348
    first
      | exact ⟨rfl, congrArg (fun z : Int32 => Sum.inl (some (Value.int z))) (if_pos (Decidable.not_not.mp c4343)).symm⟩
      | exact ⟨rfl, congrArg (fun z : Int32 => Sum.inl (some (Value.int z))) (if_neg c4343).symm⟩
theorem C_holds (n : Nat) (p q : Nat) (h : List zC) (u : Nat) (hp : RI h p) (hc : CI h q) : zL zrx zi n 128 0 [(0, .ref p), (1, .ref q)] [] h u (fun o h2 _ => h2 = h ∧ o = .inl (some (.int (if (okP (mR h p) (iv h q 3) (iv h q 2) (iv h q 4) (iv h q 5) (iv h q 6)) then 1 else 0)))) := by
  have p1 := hp.at (j := 1) (by omega)
  have p2 := hp.at (j := 2) (by omega)
  have p3 := hp.at (j := 3) (by omega)
  have p4 := hp.at (j := 4) (by omega)
  have p7 := hp.at (j := 7) (by omega)
  have p8 := hp.at (j := 8) (by omega)
  have p9 := hp.at (j := 9) (by omega)
  have s2 := hc.at (j := 2) (by omega)
  have s3 := hc.at (j := 3) (by omega)
  have s4 := hc.at (j := 4) (by omega)
  have s5 := hc.at (j := 5) (by omega)
  have s6 := hc.at (j := 6) (by omega)
  refine zSaload (m := 1) (k := 1) vr_128_0 rfl rfl rfl ?_
  refine zLget vr_128_1 rfl (fun p4350 w4350 e4350 t4350 g4350 => ?_)
  cases e4350
  first | (rw [p1] at g4350; cases g4350) | (rw [p2] at g4350; cases g4350) | (rw [p3] at g4350; cases g4350) | (rw [p4] at g4350; cases g4350) | (rw [p7] at g4350; cases g4350) | (rw [p8] at g4350; cases g4350) | (rw [p9] at g4350; cases g4350) | (rw [s2] at g4350; cases g4350) | (rw [s3] at g4350; cases g4350) | (rw [s4] at g4350; cases g4350) | (rw [s5] at g4350; cases g4350) | (rw [s6] at g4350; cases g4350) | skip
  refine zSaload (m := 1) (k := 0) vr_128_4 rfl rfl rfl ?_
  refine zLget vr_128_5 rfl (fun p4352 w4352 e4352 t4352 g4352 => ?_)
  cases e4352
  first | (rw [p1] at g4352; cases g4352) | (rw [p2] at g4352; cases g4352) | (rw [p3] at g4352; cases g4352) | (rw [p4] at g4352; cases g4352) | (rw [p7] at g4352; cases g4352) | (rw [p8] at g4352; cases g4352) | (rw [p9] at g4352; cases g4352) | (rw [s2] at g4352; cases g4352) | (rw [s3] at g4352; cases g4352) | (rw [s4] at g4352; cases g4352) | (rw [s5] at g4352; cases g4352) | (rw [s6] at g4352; cases g4352) | skip
  refine zSb2 (f := fun x y => decide (¬ x = y)) (off := 78) (t := 86) vr_128_8 rfl rfl rfl (fun x4353 y4353 e4353 f4353 q4353 => ?_) (fun x4353 y4353 e4353 f4353 q4353 => ?_)
  · cases e4353
    cases f4353
    have c4353 := of_decide_eq_true q4353
    refine zSp0 (pc' := 87) (st' := .int (0) :: _) vr_128_86 rfl rfl ?_
    refine zLiret vr_128_87 rfl (fun x4355 e4355 => ?_)
    cases e4355
    first
      | exact ⟨rfl, congrArg (fun z : Int32 => Sum.inl (some (Value.int z))) (if_pos (show (okP (mR h p) (iv h q 3) (iv h q 2) (iv h q 4) (iv h q 5) (iv h q 6)) from ⟨Decidable.not_not.mp c4353, hs_y c4285, Decidable.not_not.mp c4295, Decidable.not_not.mp c4251, (inB_b c4323).1, (inB_b c4323).2, Int32.not_lt.mp c4150⟩)).symm⟩
      | exact ⟨rfl, congrArg (fun z : Int32 => Sum.inl (some (Value.int z))) (if_neg (fun z : (okP (mR h p) (iv h q 3) (iv h q 2) (iv h q 4) (iv h q 5) (iv h q 6)) => c4353 z.1)).symm⟩
      | exact ⟨rfl, congrArg (fun z : Int32 => Sum.inl (some (Value.int z))) (if_neg (fun z : (okP (mR h p) (iv h q 3) (iv h q 2) (iv h q 4) (iv h q 5) (iv h q 6)) => hs_n c4285 z.2.1)).symm⟩
      | exact ⟨rfl, congrArg (fun z : Int32 => Sum.inl (some (Value.int z))) (if_neg (fun z : (okP (mR h p) (iv h q 3) (iv h q 2) (iv h q 4) (iv h q 5) (iv h q 6)) => c4295 z.2.2.1)).symm⟩
      | exact ⟨rfl, congrArg (fun z : Int32 => Sum.inl (some (Value.int z))) (if_neg (fun z : (okP (mR h p) (iv h q 3) (iv h q 2) (iv h q 4) (iv h q 5) (iv h q 6)) => c4251 z.2.2.2.1)).symm⟩
      | exact ⟨rfl, congrArg (fun z : Int32 => Sum.inl (some (Value.int z))) (if_neg (fun z : (okP (mR h p) (iv h q 3) (iv h q 2) (iv h q 4) (iv h q 5) (iv h q 6)) => inB_c c4323 ⟨z.2.2.2.2.1, z.2.2.2.2.2.1⟩)).symm⟩
      | exact ⟨rfl, congrArg (fun z : Int32 => Sum.inl (some (Value.int z))) (if_neg (fun z : (okP (mR h p) (iv h q 3) (iv h q 2) (iv h q 4) (iv h q 5) (iv h q 6)) => absurd c4150 (Int32.not_lt.mpr z.2.2.2.2.2.2))).symm⟩
  · cases e4353
    cases f4353
    have c4353 := ndc q4353
    refine zSaload (m := 1) (k := 0) vr_128_11 rfl rfl rfl ?_
    refine zLget vr_128_12 rfl (fun p4357 w4357 e4357 t4357 g4357 => ?_)
    cases e4357
    first | (rw [p1] at g4357; cases g4357) | (rw [p2] at g4357; cases g4357) | (rw [p3] at g4357; cases g4357) | (rw [p4] at g4357; cases g4357) | (rw [p7] at g4357; cases g4357) | (rw [p8] at g4357; cases g4357) | (rw [p9] at g4357; cases g4357) | (rw [s2] at g4357; cases g4357) | (rw [s3] at g4357; cases g4357) | (rw [s4] at g4357; cases g4357) | (rw [s5] at g4357; cases g4357) | (rw [s6] at g4357; cases g4357) | skip
    refine zSaload (m := 1) (k := 1) vr_128_15 rfl rfl rfl ?_
    refine zLget vr_128_16 rfl (fun p4359 w4359 e4359 t4359 g4359 => ?_)
    cases e4359
    first | (rw [p1] at g4359; cases g4359) | (rw [p2] at g4359; cases g4359) | (rw [p3] at g4359; cases g4359) | (rw [p4] at g4359; cases g4359) | (rw [p7] at g4359; cases g4359) | (rw [p8] at g4359; cases g4359) | (rw [p9] at g4359; cases g4359) | (rw [s2] at g4359; cases g4359) | (rw [s3] at g4359; cases g4359) | (rw [s4] at g4359; cases g4359) | (rw [s5] at g4359; cases g4359) | (rw [s6] at g4359; cases g4359) | skip
    refine zScall vr_128_19 rfl rfl rfl (fun m4360 _ => C_has _ _ _ _ _) (fun v4360 h4360 u4360 q4360 => ?_) (fun E4360 h4360 u4360 q4360 => ?_)
    · obtain ⟨eh4360, z4360⟩ := q4360
      replace eh4360 := eh4360.symm
      subst eh4360
      cases z4360
      show zL zrx zi _ 128 22 [(0, _), (1, _)] [_] _ _ _
      refine zSb1 (f := fun x => decide (x = 0)) (off := 64) (t := 86) vr_128_22 rfl rfl rfl (fun x4361 e4361 q4361 => ?_) (fun x4361 e4361 q4361 => ?_)
      · cases e4361
        have c4361 := of_decide_eq_true q4361
        refine zSp0 (pc' := 87) (st' := .int (0) :: _) vr_128_86 rfl rfl ?_
        refine zLiret vr_128_87 rfl (fun x4363 e4363 => ?_)
        cases e4363
        first
          | exact ⟨rfl, congrArg (fun z : Int32 => Sum.inl (some (Value.int z))) (if_pos (show (okP (mR h p) (iv h q 3) (iv h q 2) (iv h q 4) (iv h q 5) (iv h q 6)) from ⟨Decidable.not_not.mp c4353, hs_y c4361, Decidable.not_not.mp c4295, Decidable.not_not.mp c4251, (inB_b c4323).1, (inB_b c4323).2, Int32.not_lt.mp c4150⟩)).symm⟩
          | exact ⟨rfl, congrArg (fun z : Int32 => Sum.inl (some (Value.int z))) (if_neg (fun z : (okP (mR h p) (iv h q 3) (iv h q 2) (iv h q 4) (iv h q 5) (iv h q 6)) => c4353 z.1)).symm⟩
          | exact ⟨rfl, congrArg (fun z : Int32 => Sum.inl (some (Value.int z))) (if_neg (fun z : (okP (mR h p) (iv h q 3) (iv h q 2) (iv h q 4) (iv h q 5) (iv h q 6)) => hs_n c4361 z.2.1)).symm⟩
          | exact ⟨rfl, congrArg (fun z : Int32 => Sum.inl (some (Value.int z))) (if_neg (fun z : (okP (mR h p) (iv h q 3) (iv h q 2) (iv h q 4) (iv h q 5) (iv h q 6)) => c4295 z.2.2.1)).symm⟩
          | exact ⟨rfl, congrArg (fun z : Int32 => Sum.inl (some (Value.int z))) (if_neg (fun z : (okP (mR h p) (iv h q 3) (iv h q 2) (iv h q 4) (iv h q 5) (iv h q 6)) => c4251 z.2.2.2.1)).symm⟩
          | exact ⟨rfl, congrArg (fun z : Int32 => Sum.inl (some (Value.int z))) (if_neg (fun z : (okP (mR h p) (iv h q 3) (iv h q 2) (iv h q 4) (iv h q 5) (iv h q 6)) => inB_c c4323 ⟨z.2.2.2.2.1, z.2.2.2.2.2.1⟩)).symm⟩
          | exact ⟨rfl, congrArg (fun z : Int32 => Sum.inl (some (Value.int z))) (if_neg (fun z : (okP (mR h p) (iv h q 3) (iv h q 2) (iv h q 4) (iv h q 5) (iv h q 6)) => absurd c4150 (Int32.not_lt.mpr z.2.2.2.2.2.2))).symm⟩
      · cases e4361
        have c4361 := ndc q4361
        refine zSaload (m := 1) (k := 1) vr_128_25 rfl rfl rfl ?_
        refine zLget vr_128_26 rfl (fun p4365 w4365 e4365 t4365 g4365 => ?_)
        cases e4365
        first | (rw [p1] at g4365; cases g4365) | (rw [p2] at g4365; cases g4365) | (rw [p3] at g4365; cases g4365) | (rw [p4] at g4365; cases g4365) | (rw [p7] at g4365; cases g4365) | (rw [p8] at g4365; cases g4365) | (rw [p9] at g4365; cases g4365) | (rw [s2] at g4365; cases g4365) | (rw [s3] at g4365; cases g4365) | (rw [s4] at g4365; cases g4365) | (rw [s5] at g4365; cases g4365) | (rw [s6] at g4365; cases g4365) | skip
        refine zSaload (m := 1) (k := 0) vr_128_29 rfl rfl rfl ?_
        refine zLget vr_128_30 rfl (fun p4367 w4367 e4367 t4367 g4367 => ?_)
        cases e4367
        first | (rw [p1] at g4367; cases g4367) | (rw [p2] at g4367; cases g4367) | (rw [p3] at g4367; cases g4367) | (rw [p4] at g4367; cases g4367) | (rw [p7] at g4367; cases g4367) | (rw [p8] at g4367; cases g4367) | (rw [p9] at g4367; cases g4367) | (rw [s2] at g4367; cases g4367) | (rw [s3] at g4367; cases g4367) | (rw [s4] at g4367; cases g4367) | (rw [s5] at g4367; cases g4367) | (rw [s6] at g4367; cases g4367) | skip
        refine zS2 (f := fun x y => .int (x &&& y)) vr_128_33 rfl rfl (fun x4368 y4368 e4368 f4368 => ?_)
        cases e4368
        cases f4368
        refine zSaload (m := 1) (k := 0) vr_128_34 rfl rfl rfl ?_
        refine zLget vr_128_35 rfl (fun p4370 w4370 e4370 t4370 g4370 => ?_)
        cases e4370
        first | (rw [p1] at g4370; cases g4370) | (rw [p2] at g4370; cases g4370) | (rw [p3] at g4370; cases g4370) | (rw [p4] at g4370; cases g4370) | (rw [p7] at g4370; cases g4370) | (rw [p8] at g4370; cases g4370) | (rw [p9] at g4370; cases g4370) | (rw [s2] at g4370; cases g4370) | (rw [s3] at g4370; cases g4370) | (rw [s4] at g4370; cases g4370) | (rw [s5] at g4370; cases g4370) | (rw [s6] at g4370; cases g4370) | skip
        refine zSb2 (f := fun x y => decide (¬ x = y)) (off := 48) (t := 86) vr_128_38 rfl rfl rfl (fun x4371 y4371 e4371 f4371 q4371 => ?_) (fun x4371 y4371 e4371 f4371 q4371 => ?_)
        · cases e4371
          cases f4371
          have c4371 := of_decide_eq_true q4371
          refine zSp0 (pc' := 87) (st' := .int (0) :: _) vr_128_86 rfl rfl ?_
          refine zLiret vr_128_87 rfl (fun x4373 e4373 => ?_)
          cases e4373
          first
            | exact ⟨rfl, congrArg (fun z : Int32 => Sum.inl (some (Value.int z))) (if_pos (show (okP (mR h p) (iv h q 3) (iv h q 2) (iv h q 4) (iv h q 5) (iv h q 6)) from ⟨Decidable.not_not.mp c4353, hs_y c4361, Decidable.not_not.mp c4371, Decidable.not_not.mp c4251, (inB_b c4323).1, (inB_b c4323).2, Int32.not_lt.mp c4150⟩)).symm⟩
            | exact ⟨rfl, congrArg (fun z : Int32 => Sum.inl (some (Value.int z))) (if_neg (fun z : (okP (mR h p) (iv h q 3) (iv h q 2) (iv h q 4) (iv h q 5) (iv h q 6)) => c4353 z.1)).symm⟩
            | exact ⟨rfl, congrArg (fun z : Int32 => Sum.inl (some (Value.int z))) (if_neg (fun z : (okP (mR h p) (iv h q 3) (iv h q 2) (iv h q 4) (iv h q 5) (iv h q 6)) => hs_n c4361 z.2.1)).symm⟩
            | exact ⟨rfl, congrArg (fun z : Int32 => Sum.inl (some (Value.int z))) (if_neg (fun z : (okP (mR h p) (iv h q 3) (iv h q 2) (iv h q 4) (iv h q 5) (iv h q 6)) => c4371 z.2.2.1)).symm⟩
            | exact ⟨rfl, congrArg (fun z : Int32 => Sum.inl (some (Value.int z))) (if_neg (fun z : (okP (mR h p) (iv h q 3) (iv h q 2) (iv h q 4) (iv h q 5) (iv h q 6)) => c4251 z.2.2.2.1)).symm⟩
            | exact ⟨rfl, congrArg (fun z : Int32 => Sum.inl (some (Value.int z))) (if_neg (fun z : (okP (mR h p) (iv h q 3) (iv h q 2) (iv h q 4) (iv h q 5) (iv h q 6)) => inB_c c4323 ⟨z.2.2.2.2.1, z.2.2.2.2.2.1⟩)).symm⟩
            | exact ⟨rfl, congrArg (fun z : Int32 => Sum.inl (some (Value.int z))) (if_neg (fun z : (okP (mR h p) (iv h q 3) (iv h q 2) (iv h q 4) (iv h q 5) (iv h q 6)) => absurd c4150 (Int32.not_lt.mpr z.2.2.2.2.2.2))).symm⟩
        · cases e4371
          cases f4371
          have c4371 := ndc q4371
          refine zSaload (m := 1) (k := 1) vr_128_41 rfl rfl rfl ?_
          refine zLget vr_128_42 rfl (fun p4375 w4375 e4375 t4375 g4375 => ?_)
          cases e4375
          first | (rw [p1] at g4375; cases g4375) | (rw [p2] at g4375; cases g4375) | (rw [p3] at g4375; cases g4375) | (rw [p4] at g4375; cases g4375) | (rw [p7] at g4375; cases g4375) | (rw [p8] at g4375; cases g4375) | (rw [p9] at g4375; cases g4375) | (rw [s2] at g4375; cases g4375) | (rw [s3] at g4375; cases g4375) | (rw [s4] at g4375; cases g4375) | (rw [s5] at g4375; cases g4375) | (rw [s6] at g4375; cases g4375) | skip
          refine zSaload (m := 1) (k := 0) vr_128_45 rfl rfl rfl ?_
          refine zLget vr_128_46 rfl (fun p4377 w4377 e4377 t4377 g4377 => ?_)
          cases e4377
          first | (rw [p1] at g4377; cases g4377) | (rw [p2] at g4377; cases g4377) | (rw [p3] at g4377; cases g4377) | (rw [p4] at g4377; cases g4377) | (rw [p7] at g4377; cases g4377) | (rw [p8] at g4377; cases g4377) | (rw [p9] at g4377; cases g4377) | (rw [s2] at g4377; cases g4377) | (rw [s3] at g4377; cases g4377) | (rw [s4] at g4377; cases g4377) | (rw [s5] at g4377; cases g4377) | (rw [s6] at g4377; cases g4377) | skip
          refine zS2 (f := fun x y => .int (x &&& y)) vr_128_49 rfl rfl (fun x4378 y4378 e4378 f4378 => ?_)
          cases e4378
          cases f4378
          refine zSb1 (f := fun x => decide (¬ x = 0)) (off := 36) (t := 86) vr_128_50 rfl rfl rfl (fun x4379 e4379 q4379 => ?_) (fun x4379 e4379 q4379 => ?_)
          · cases e4379
            have c4379 := of_decide_eq_true q4379
            refine zSp0 (pc' := 87) (st' := .int (0) :: _) vr_128_86 rfl rfl ?_
            refine zLiret vr_128_87 rfl (fun x4381 e4381 => ?_)
            cases e4381
            first
              | exact ⟨rfl, congrArg (fun z : Int32 => Sum.inl (some (Value.int z))) (if_pos (show (okP (mR h p) (iv h q 3) (iv h q 2) (iv h q 4) (iv h q 5) (iv h q 6)) from ⟨Decidable.not_not.mp c4353, hs_y c4361, Decidable.not_not.mp c4371, Decidable.not_not.mp c4379, (inB_b c4323).1, (inB_b c4323).2, Int32.not_lt.mp c4150⟩)).symm⟩
              | exact ⟨rfl, congrArg (fun z : Int32 => Sum.inl (some (Value.int z))) (if_neg (fun z : (okP (mR h p) (iv h q 3) (iv h q 2) (iv h q 4) (iv h q 5) (iv h q 6)) => c4353 z.1)).symm⟩
              | exact ⟨rfl, congrArg (fun z : Int32 => Sum.inl (some (Value.int z))) (if_neg (fun z : (okP (mR h p) (iv h q 3) (iv h q 2) (iv h q 4) (iv h q 5) (iv h q 6)) => hs_n c4361 z.2.1)).symm⟩
              | exact ⟨rfl, congrArg (fun z : Int32 => Sum.inl (some (Value.int z))) (if_neg (fun z : (okP (mR h p) (iv h q 3) (iv h q 2) (iv h q 4) (iv h q 5) (iv h q 6)) => c4371 z.2.2.1)).symm⟩
              | exact ⟨rfl, congrArg (fun z : Int32 => Sum.inl (some (Value.int z))) (if_neg (fun z : (okP (mR h p) (iv h q 3) (iv h q 2) (iv h q 4) (iv h q 5) (iv h q 6)) => c4379 z.2.2.2.1)).symm⟩
              | exact ⟨rfl, congrArg (fun z : Int32 => Sum.inl (some (Value.int z))) (if_neg (fun z : (okP (mR h p) (iv h q 3) (iv h q 2) (iv h q 4) (iv h q 5) (iv h q 6)) => inB_c c4323 ⟨z.2.2.2.2.1, z.2.2.2.2.2.1⟩)).symm⟩
              | exact ⟨rfl, congrArg (fun z : Int32 => Sum.inl (some (Value.int z))) (if_neg (fun z : (okP (mR h p) (iv h q 3) (iv h q 2) (iv h q 4) (iv h q 5) (iv h q 6)) => absurd c4150 (Int32.not_lt.mpr z.2.2.2.2.2.2))).symm⟩
          · cases e4379
            have c4379 := ndc q4379
            refine zSaload (m := 1) (k := 1) vr_128_53 rfl rfl rfl ?_
            refine zLget vr_128_54 rfl (fun p4383 w4383 e4383 t4383 g4383 => ?_)
            cases e4383
            first | (rw [p1] at g4383; cases g4383) | (rw [p2] at g4383; cases g4383) | (rw [p3] at g4383; cases g4383) | (rw [p4] at g4383; cases g4383) | (rw [p7] at g4383; cases g4383) | (rw [p8] at g4383; cases g4383) | (rw [p9] at g4383; cases g4383) | (rw [s2] at g4383; cases g4383) | (rw [s3] at g4383; cases g4383) | (rw [s4] at g4383; cases g4383) | (rw [s5] at g4383; cases g4383) | (rw [s6] at g4383; cases g4383) | skip
            refine zSaload (m := 1) (k := 0) vr_128_57 rfl rfl rfl ?_
            refine zLget vr_128_58 rfl (fun p4385 w4385 e4385 t4385 g4385 => ?_)
            cases e4385
            first | (rw [p1] at g4385; cases g4385) | (rw [p2] at g4385; cases g4385) | (rw [p3] at g4385; cases g4385) | (rw [p4] at g4385; cases g4385) | (rw [p7] at g4385; cases g4385) | (rw [p8] at g4385; cases g4385) | (rw [p9] at g4385; cases g4385) | (rw [s2] at g4385; cases g4385) | (rw [s3] at g4385; cases g4385) | (rw [s4] at g4385; cases g4385) | (rw [s5] at g4385; cases g4385) | (rw [s6] at g4385; cases g4385) | skip
            refine zSaload (m := 1) (k := 0) vr_128_61 rfl rfl rfl ?_
            refine zLget vr_128_62 rfl (fun p4387 w4387 e4387 t4387 g4387 => ?_)
            cases e4387
            first | (rw [p1] at g4387; cases g4387) | (rw [p2] at g4387; cases g4387) | (rw [p3] at g4387; cases g4387) | (rw [p4] at g4387; cases g4387) | (rw [p7] at g4387; cases g4387) | (rw [p8] at g4387; cases g4387) | (rw [p9] at g4387; cases g4387) | (rw [s2] at g4387; cases g4387) | (rw [s3] at g4387; cases g4387) | (rw [s4] at g4387; cases g4387) | (rw [s5] at g4387; cases g4387) | (rw [s6] at g4387; cases g4387) | skip
            refine zScall vr_128_65 rfl rfl rfl (fun m4388 _ => C_in _ _ _ _ _ _) (fun v4388 h4388 u4388 q4388 => ?_) (fun E4388 h4388 u4388 q4388 => ?_)
            · obtain ⟨eh4388, z4388⟩ := q4388
              replace eh4388 := eh4388.symm
              subst eh4388
              cases z4388
              show zL zrx zi _ 128 68 [(0, _), (1, _)] [_] _ _ _
              refine zSb1 (f := fun x => decide (x = 0)) (off := 18) (t := 86) vr_128_68 rfl rfl rfl (fun x4389 e4389 q4389 => ?_) (fun x4389 e4389 q4389 => ?_)
              · cases e4389
                have c4389 := of_decide_eq_true q4389
                refine zSp0 (pc' := 87) (st' := .int (0) :: _) vr_128_86 rfl rfl ?_
                refine zLiret vr_128_87 rfl (fun x4391 e4391 => ?_)
                cases e4391
                first
                  | exact ⟨rfl, congrArg (fun z : Int32 => Sum.inl (some (Value.int z))) (if_pos (show (okP (mR h p) (iv h q 3) (iv h q 2) (iv h q 4) (iv h q 5) (iv h q 6)) from ⟨Decidable.not_not.mp c4353, hs_y c4361, Decidable.not_not.mp c4371, Decidable.not_not.mp c4379, (inB_b c4389).1, (inB_b c4389).2, Int32.not_lt.mp c4150⟩)).symm⟩
                  | exact ⟨rfl, congrArg (fun z : Int32 => Sum.inl (some (Value.int z))) (if_neg (fun z : (okP (mR h p) (iv h q 3) (iv h q 2) (iv h q 4) (iv h q 5) (iv h q 6)) => c4353 z.1)).symm⟩
                  | exact ⟨rfl, congrArg (fun z : Int32 => Sum.inl (some (Value.int z))) (if_neg (fun z : (okP (mR h p) (iv h q 3) (iv h q 2) (iv h q 4) (iv h q 5) (iv h q 6)) => hs_n c4361 z.2.1)).symm⟩
                  | exact ⟨rfl, congrArg (fun z : Int32 => Sum.inl (some (Value.int z))) (if_neg (fun z : (okP (mR h p) (iv h q 3) (iv h q 2) (iv h q 4) (iv h q 5) (iv h q 6)) => c4371 z.2.2.1)).symm⟩
                  | exact ⟨rfl, congrArg (fun z : Int32 => Sum.inl (some (Value.int z))) (if_neg (fun z : (okP (mR h p) (iv h q 3) (iv h q 2) (iv h q 4) (iv h q 5) (iv h q 6)) => c4379 z.2.2.2.1)).symm⟩
                  | exact ⟨rfl, congrArg (fun z : Int32 => Sum.inl (some (Value.int z))) (if_neg (fun z : (okP (mR h p) (iv h q 3) (iv h q 2) (iv h q 4) (iv h q 5) (iv h q 6)) => inB_c c4389 ⟨z.2.2.2.2.1, z.2.2.2.2.2.1⟩)).symm⟩
                  | exact ⟨rfl, congrArg (fun z : Int32 => Sum.inl (some (Value.int z))) (if_neg (fun z : (okP (mR h p) (iv h q 3) (iv h q 2) (iv h q 4) (iv h q 5) (iv h q 6)) => absurd c4150 (Int32.not_lt.mpr z.2.2.2.2.2.2))).symm⟩
              · cases e4389
                have c4389 := ndc q4389
                refine zSaload (m := 1) (k := 1) vr_128_71 rfl rfl rfl ?_
                refine zLget vr_128_72 rfl (fun p4393 w4393 e4393 t4393 g4393 => ?_)
                cases e4393
                first | (rw [p1] at g4393; cases g4393) | (rw [p2] at g4393; cases g4393) | (rw [p3] at g4393; cases g4393) | (rw [p4] at g4393; cases g4393) | (rw [p7] at g4393; cases g4393) | (rw [p8] at g4393; cases g4393) | (rw [p9] at g4393; cases g4393) | (rw [s2] at g4393; cases g4393) | (rw [s3] at g4393; cases g4393) | (rw [s4] at g4393; cases g4393) | (rw [s5] at g4393; cases g4393) | (rw [s6] at g4393; cases g4393) | skip
                refine zSaload (m := 1) (k := 0) vr_128_75 rfl rfl rfl ?_
                refine zLget vr_128_76 rfl (fun p4395 w4395 e4395 t4395 g4395 => ?_)
                cases e4395
                first | (rw [p1] at g4395; cases g4395) | (rw [p2] at g4395; cases g4395) | (rw [p3] at g4395; cases g4395) | (rw [p4] at g4395; cases g4395) | (rw [p7] at g4395; cases g4395) | (rw [p8] at g4395; cases g4395) | (rw [p9] at g4395; cases g4395) | (rw [s2] at g4395; cases g4395) | (rw [s3] at g4395; cases g4395) | (rw [s4] at g4395; cases g4395) | (rw [s5] at g4395; cases g4395) | (rw [s6] at g4395; cases g4395) | skip
                refine zSb2 (f := fun x y => decide (x < y)) (off := 7) (t := 86) vr_128_79 rfl rfl rfl (fun x4396 y4396 e4396 f4396 q4396 => ?_) (fun x4396 y4396 e4396 f4396 q4396 => ?_)
                · cases e4396
                  cases f4396
                  have c4396 := of_decide_eq_true q4396
                  refine zSp0 (pc' := 87) (st' := .int (0) :: _) vr_128_86 rfl rfl ?_
                  refine zLiret vr_128_87 rfl (fun x4398 e4398 => ?_)
                  cases e4398
                  first
                    | exact ⟨rfl, congrArg (fun z : Int32 => Sum.inl (some (Value.int z))) (if_pos (show (okP (mR h p) (iv h q 3) (iv h q 2) (iv h q 4) (iv h q 5) (iv h q 6)) from ⟨Decidable.not_not.mp c4353, hs_y c4361, Decidable.not_not.mp c4371, Decidable.not_not.mp c4379, (inB_b c4389).1, (inB_b c4389).2, Int32.not_lt.mp c4396⟩)).symm⟩
                    | exact ⟨rfl, congrArg (fun z : Int32 => Sum.inl (some (Value.int z))) (if_neg (fun z : (okP (mR h p) (iv h q 3) (iv h q 2) (iv h q 4) (iv h q 5) (iv h q 6)) => c4353 z.1)).symm⟩
                    | exact ⟨rfl, congrArg (fun z : Int32 => Sum.inl (some (Value.int z))) (if_neg (fun z : (okP (mR h p) (iv h q 3) (iv h q 2) (iv h q 4) (iv h q 5) (iv h q 6)) => hs_n c4361 z.2.1)).symm⟩
                    | exact ⟨rfl, congrArg (fun z : Int32 => Sum.inl (some (Value.int z))) (if_neg (fun z : (okP (mR h p) (iv h q 3) (iv h q 2) (iv h q 4) (iv h q 5) (iv h q 6)) => c4371 z.2.2.1)).symm⟩
                    | exact ⟨rfl, congrArg (fun z : Int32 => Sum.inl (some (Value.int z))) (if_neg (fun z : (okP (mR h p) (iv h q 3) (iv h q 2) (iv h q 4) (iv h q 5) (iv h q 6)) => c4379 z.2.2.2.1)).symm⟩
                    | exact ⟨rfl, congrArg (fun z : Int32 => Sum.inl (some (Value.int z))) (if_neg (fun z : (okP (mR h p) (iv h q 3) (iv h q 2) (iv h q 4) (iv h q 5) (iv h q 6)) => inB_c c4389 ⟨z.2.2.2.2.1, z.2.2.2.2.2.1⟩)).symm⟩
                    | exact ⟨rfl, congrArg (fun z : Int32 => Sum.inl (some (Value.int z))) (if_neg (fun z : (okP (mR h p) (iv h q 3) (iv h q 2) (iv h q 4) (iv h q 5) (iv h q 6)) => absurd c4396 (Int32.not_lt.mpr z.2.2.2.2.2.2))).symm⟩
                · cases e4396
                  cases f4396
                  have c4396 := ndc q4396
                  refine zSp0 (pc' := 83) (st' := .int (1) :: _) vr_128_82 rfl rfl ?_
                  refine zSgo (t := 87) vr_128_83 rfl rfl ?_
                  refine zLiret vr_128_87 rfl (fun x4401 e4401 => ?_)
                  cases e4401
                  first
                    | exact ⟨rfl, congrArg (fun z : Int32 => Sum.inl (some (Value.int z))) (if_pos (show (okP (mR h p) (iv h q 3) (iv h q 2) (iv h q 4) (iv h q 5) (iv h q 6)) from ⟨Decidable.not_not.mp c4353, hs_y c4361, Decidable.not_not.mp c4371, Decidable.not_not.mp c4379, (inB_b c4389).1, (inB_b c4389).2, Int32.not_lt.mp c4396⟩)).symm⟩
                    | exact ⟨rfl, congrArg (fun z : Int32 => Sum.inl (some (Value.int z))) (if_neg (fun z : (okP (mR h p) (iv h q 3) (iv h q 2) (iv h q 4) (iv h q 5) (iv h q 6)) => c4353 z.1)).symm⟩
                    | exact ⟨rfl, congrArg (fun z : Int32 => Sum.inl (some (Value.int z))) (if_neg (fun z : (okP (mR h p) (iv h q 3) (iv h q 2) (iv h q 4) (iv h q 5) (iv h q 6)) => hs_n c4361 z.2.1)).symm⟩
                    | exact ⟨rfl, congrArg (fun z : Int32 => Sum.inl (some (Value.int z))) (if_neg (fun z : (okP (mR h p) (iv h q 3) (iv h q 2) (iv h q 4) (iv h q 5) (iv h q 6)) => c4371 z.2.2.1)).symm⟩
                    | exact ⟨rfl, congrArg (fun z : Int32 => Sum.inl (some (Value.int z))) (if_neg (fun z : (okP (mR h p) (iv h q 3) (iv h q 2) (iv h q 4) (iv h q 5) (iv h q 6)) => c4379 z.2.2.2.1)).symm⟩
                    | exact ⟨rfl, congrArg (fun z : Int32 => Sum.inl (some (Value.int z))) (if_neg (fun z : (okP (mR h p) (iv h q 3) (iv h q 2) (iv h q 4) (iv h q 5) (iv h q 6)) => inB_c c4389 ⟨z.2.2.2.2.1, z.2.2.2.2.2.1⟩)).symm⟩
                    | exact ⟨rfl, congrArg (fun z : Int32 => Sum.inl (some (Value.int z))) (if_neg (fun z : (okP (mR h p) (iv h q 3) (iv h q 2) (iv h q 4) (iv h q 5) (iv h q 6)) => absurd c4396 (Int32.not_lt.mpr z.2.2.2.2.2.2))).symm⟩
            · obtain ⟨-, z⟩ := q4388
              cases z
    · obtain ⟨-, z⟩ := q4360
      cases z
theorem C_stV (n p : Nat) (h : List zC) (u : Nat) {a b c : Int32} (h3 : gF h p 3 = some (.int a)) (h4 : gF h p 4 = some (.int b)) (h6 : gF h p 6 = some (.int c)) (ra : rI 0 63 a) (rb : rI 0 63 b) : zL zrx zi n 127 0 [(0, .ref p)] [] h u (fun o h2 _ => h2 = h ∧ o = .inl (some (.int (stV h p)))) :=
  zL_K _ _ _ _ _ _ _ _ _ (C_strength n p h u h3 h4 h6) (fun o h2 _ q => by
    obtain ⟨q1, s, t, q2, q3, q4⟩ := q
    refine ⟨q1, ?_⟩
    rw [q4]
    unfold stV
    rw [iv_of h3, iv_of h4, iv_of h6, psz_f ra q2, psz_f rb q3])
set_option maxRecDepth 20000 in
theorem C_cu_loop {par cnt : Int32} {q el : Nat} {h : List zC} (hS : Stc h) (hs : gF h 223 2 = some (.int cnt)) (hL : gF h 223 1 = some (.ref el)) (h0 : 0 ≤ cnt.toInt) (h40 : cnt.toInt ≤ 40) (hq : ∀ k, k < cnt.toNatClampNeg → ∃ x : Nat, gF h el k = some (.ref x) ∧ RI h x ∧ ∃ a b c : Int32, gF h x 3 = some (.int a) ∧ gF h x 4 = some (.int b) ∧ gF h x 6 = some (.int c) ∧ rI 0 63 a ∧ rI 0 63 b) (hci : CI h q) : ∀ (n k : Nat) (s t : Int32) (w : Value) (u : Nat), k ≤ cnt.toNatClampNeg → cuM (dM h el par (iv h q 3) (iv h q 2) (iv h q 4) (iv h q 5) (iv h q 6)) k = (t, s) → zL zrx zi n 135 8 [(5, .int (Int32.ofNat k)), (4, .int t), (3, .int s), (0, .ref 213), (1, .int par), (2, .ref q), (6, w)] [] h u (fun o h2 _ => h2 = h ∧ o = .inl (some (.int (cuM (dM h el par (iv h q 3) (iv h q 2) (iv h q 4) (iv h q 5) (iv h q 6)) cnt.toNatClampNeg).1)))
  | 0, _, _, _, _, _, _, _ => trivial
  | n + 1, k, s, t, w, u, hk, hD => by
    have ck : cnt.toNatClampNeg = cnt.toInt.toNat := rfl
    have kk := (toNat_ofNat (m := k) (by omega))
    refine zLp vr_135_8 rfl rfl ?_
    refine zSaload (m := 1) (k := 0) vr_135_10 rfl rfl rfl ?_
    refine zLget vr_135_11 rfl (fun p4403 w4403 e4403 t4403 g4403 => ?_)
    cases e4403
    first | (rw [(st_213_7 hS)] at g4403; cases g4403) | skip
    refine zScall vr_135_14 rfl rfl rfl (fun m4404 _ => C_lsize _ _ _ _ hs) (fun v4404 h4404 u4404 q4404 => ?_) (fun E4404 h4404 u4404 q4404 => ?_)
    · obtain ⟨eh4404, z4404⟩ := q4404
      replace eh4404 := eh4404.symm
      subst eh4404
      cases z4404
      show zL zrx zi _ 135 19 [(5, _), (4, _), (3, _), (0, _), (1, _), (2, _), (6, _)] [_, _] _ _ _
      refine zSb2 (f := fun x y => decide (y ≤ x)) (off := 92) (t := 111) vr_135_19 rfl rfl rfl (fun x4405 y4405 e4405 f4405 q4405 => ?_) (fun x4405 y4405 e4405 f4405 q4405 => ?_)
      · cases e4405
        cases f4405
        have c4405 := of_decide_eq_true q4405
        refine zSiload (m := 2) (k := 4) vr_135_111 rfl rfl rfl (fun x4406 e4406 => ?_)
        cases e4406
        refine zLiret vr_135_113 rfl (fun x4407 e4407 => ?_)
        cases e4407
        have y := c4405
        rw [i32_le, kk.2] at y
        have e : k = cnt.toNatClampNeg := by omega
        rw [← e, hD]
        exact ⟨rfl, rfl⟩
      · cases e4405
        cases f4405
        have c4405 := ndc q4405
        have hlt : k < cnt.toNatClampNeg := by
          have y := c4405
          rw [i32_le, kk.2] at y
          omega
        obtain ⟨x, x1, ri, fa, fb, fc, f3, f4, f6, ra, rb⟩ := hq k hlt
        refine zSaload (m := 1) (k := 0) vr_135_22 rfl rfl rfl ?_
        refine zLget vr_135_23 rfl (fun p4409 w4409 e4409 t4409 g4409 => ?_)
        cases e4409
        first | (rw [(st_213_7 hS)] at g4409; cases g4409) | skip
        refine zSiload (m := 2) (k := 5) vr_135_26 rfl rfl rfl (fun x4410 e4410 => ?_)
        cases e4410
        refine zScall vr_135_28 rfl rfl rfl (fun m4411 _ => C_get _ _ _ _ _ hL hs) (fun v4411 h4411 u4411 q4411 => ?_) (fun E4411 h4411 u4411 q4411 => ?_)
        · obtain ⟨eh4411, y4411, w4411, z4411, k4411⟩ := q4411
          replace eh4411 := eh4411.symm
          subst eh4411
          cases z4411
          show zL zrx zi _ 135 33 [(5, _), (4, _), (3, _), (0, _), (1, _), (2, _), (6, _)] [_] _ _ _
          refine zLcst vr_135_33 rfl (fun p4412 e4412 => ?_)
          cases e4412
          have e1 := k4411
          rw [kk.1, x1] at e1
          cases e1
          have rx := rf_of x1
          refine zSastore (m := 2) (k := 6) vr_135_36 rfl rfl ?_
          show zL zrx zi _ 135 38 [(6, _), (5, _), (4, _), (3, _), (0, _), (1, _), (2, _)] [] _ _ _
          refine zSaload (m := 2) (k := 6) vr_135_38 rfl rfl rfl ?_
          refine zLget vr_135_40 rfl (fun p4415 w4415 e4415 t4415 g4415 => ?_)
          cases e4415
          first | (rw [(st_213_7 hS)] at g4415; cases g4415) | skip
          refine zSiload (m := 1) (k := 1) vr_135_43 rfl rfl rfl (fun x4416 e4416 => ?_)
          cases e4416
          refine zSb2 (f := fun x y => decide (¬ x = y)) (off := 61) (t := 105) vr_135_44 rfl rfl rfl (fun x4417 y4417 e4417 f4417 q4417 => ?_) (fun x4417 y4417 e4417 f4417 q4417 => ?_)
          · cases e4417
            cases f4417
            have c4417 := of_decide_eq_true q4417
            refine zSiinc vr_135_105 rfl rfl (fun x4418 e4418 => ?_)
            cases e4418
            show zL zrx zi _ 135 108 [(5, _), (6, _), (4, _), (3, _), (0, _), (1, _), (2, _)] [] _ _ _
            refine zSgo (t := 8) vr_135_108 rfl rfl ?_
            rw [ofNat_succ]
            refine zL_pm _ _ _ [(5, _), (4, _), (3, _), (0, _), (1, _), (2, _), (6, _)] _ _ _ _ _ ⟨(List.forall_mem_cons.mpr ⟨List.mem_cons_self, (List.forall_mem_cons.mpr ⟨(List.mem_cons_of_mem _ (List.mem_cons_of_mem _ (List.mem_cons_of_mem _ (List.mem_cons_of_mem _ (List.mem_cons_of_mem _ (List.mem_cons_of_mem _ List.mem_cons_self)))))), (List.forall_mem_cons.mpr ⟨(List.mem_cons_of_mem _ List.mem_cons_self), (List.forall_mem_cons.mpr ⟨(List.mem_cons_of_mem _ (List.mem_cons_of_mem _ List.mem_cons_self)), (List.forall_mem_cons.mpr ⟨(List.mem_cons_of_mem _ (List.mem_cons_of_mem _ (List.mem_cons_of_mem _ List.mem_cons_self))), (List.forall_mem_cons.mpr ⟨(List.mem_cons_of_mem _ (List.mem_cons_of_mem _ (List.mem_cons_of_mem _ (List.mem_cons_of_mem _ List.mem_cons_self)))), (List.forall_mem_cons.mpr ⟨(List.mem_cons_of_mem _ (List.mem_cons_of_mem _ (List.mem_cons_of_mem _ (List.mem_cons_of_mem _ (List.mem_cons_of_mem _ List.mem_cons_self))))), (fun _ h => absurd h List.not_mem_nil)⟩)⟩)⟩)⟩)⟩)⟩)⟩), show ([5, 4, 3, 0, 1, 2, 6] : List Nat).Nodup by decide⟩ (C_cu_loop hS hs hL h0 h40 hq hci n (k + 1) _ _ _ _ (by omega) ?_)
            first
              | exact (dM_n (fun z => by have y := z.1; rw [rx, iv_of g4415] at y; exact c4417 y)).trans hD
              | exact (dM_n (fun z => by have y := c4382; have z2 := z.2; rw [rx] at z2; rw [if_pos z2] at y; exact absurd y (by decide))).trans hD
              | (refine (dM_y ⟨by rw [rx, iv_of g4415]; exact Decidable.not_not.mp c4417, by have y := c4382; rw [rx]; by_cases z : okP (mR h x) (iv h q 3) (iv h q 2) (iv h q 4) (iv h q 5) (iv h q 6); exact z; rw [if_neg z] at y; exact absurd rfl y⟩).trans ?_; rw [hD, rx]; unfold stM; dsimp only; rw [if_pos (Int32.not_le.mp c4387)])
              | (refine (dM_y ⟨by rw [rx, iv_of g4415]; exact Decidable.not_not.mp c4417, by have y := c4382; rw [rx]; by_cases z : okP (mR h x) (iv h q 3) (iv h q 2) (iv h q 4) (iv h q 5) (iv h q 6); exact z; rw [if_neg z] at y; exact absurd rfl y⟩).trans ?_; rw [hD, rx, iv_of g4277]; unfold stM; dsimp only; rw [if_neg (Int32.not_lt.mpr c4387), if_pos (Or.inl c4146)])
              | (refine (dM_y ⟨by rw [rx, iv_of g4415]; exact Decidable.not_not.mp c4417, by have y := c4382; rw [rx]; by_cases z : okP (mR h x) (iv h q 3) (iv h q 2) (iv h q 4) (iv h q 5) (iv h q 6); exact z; rw [if_neg z] at y; exact absurd rfl y⟩).trans ?_; rw [hD, rx, iv_of g4277]; unfold stM; dsimp only; rw [if_neg (Int32.not_lt.mpr c4387), if_pos (Or.inr (by have y := Decidable.not_not.mp c4275; have y2 := (iv_of g4305).symm.trans (iv_of g4277); rw [y2] at y; exact y))])
              | (refine (dM_y ⟨by rw [rx, iv_of g4415]; exact Decidable.not_not.mp c4417, by have y := c4382; rw [rx]; by_cases z : okP (mR h x) (iv h q 3) (iv h q 2) (iv h q 4) (iv h q 5) (iv h q 6); exact z; rw [if_neg z] at y; exact absurd rfl y⟩).trans ?_; rw [hD, rx, iv_of g4305]; unfold stM; dsimp only; rw [if_neg (Int32.not_lt.mpr c4387), if_neg (fun z => by rcases z with z | z; exact c4146 z; exact c4275 z)])
          · cases e4417
            cases f4417
            have c4417 := ndc q4417
            refine zSaload (m := 2) (k := 6) vr_135_47 rfl rfl rfl ?_
            refine zSaload (m := 1) (k := 2) vr_135_49 rfl rfl rfl ?_
            refine zScall vr_135_50 rfl rfl rfl (fun m4422 _ => C_holds _ _ _ _ _ ri hci) (fun v4422 h4422 u4422 q4422 => ?_) (fun E4422 h4422 u4422 q4422 => ?_)
            · obtain ⟨eh4422, z4422⟩ := q4422
              replace eh4422 := eh4422.symm
              subst eh4422
              cases z4422
              show zL zrx zi _ 135 53 [(6, _), (5, _), (4, _), (3, _), (0, _), (1, _), (2, _)] [_] _ _ _
              refine zSb1 (f := fun x => decide (x = 0)) (off := 52) (t := 105) vr_135_53 rfl rfl rfl (fun x4423 e4423 q4423 => ?_) (fun x4423 e4423 q4423 => ?_)
              · cases e4423
                have c4423 := of_decide_eq_true q4423
                refine zSiinc vr_135_105 rfl rfl (fun x4424 e4424 => ?_)
                cases e4424
                show zL zrx zi _ 135 108 [(5, _), (6, _), (4, _), (3, _), (0, _), (1, _), (2, _)] [] _ _ _
                refine zSgo (t := 8) vr_135_108 rfl rfl ?_
                rw [ofNat_succ]
                refine zL_pm _ _ _ [(5, _), (4, _), (3, _), (0, _), (1, _), (2, _), (6, _)] _ _ _ _ _ ⟨(List.forall_mem_cons.mpr ⟨List.mem_cons_self, (List.forall_mem_cons.mpr ⟨(List.mem_cons_of_mem _ (List.mem_cons_of_mem _ (List.mem_cons_of_mem _ (List.mem_cons_of_mem _ (List.mem_cons_of_mem _ (List.mem_cons_of_mem _ List.mem_cons_self)))))), (List.forall_mem_cons.mpr ⟨(List.mem_cons_of_mem _ List.mem_cons_self), (List.forall_mem_cons.mpr ⟨(List.mem_cons_of_mem _ (List.mem_cons_of_mem _ List.mem_cons_self)), (List.forall_mem_cons.mpr ⟨(List.mem_cons_of_mem _ (List.mem_cons_of_mem _ (List.mem_cons_of_mem _ List.mem_cons_self))), (List.forall_mem_cons.mpr ⟨(List.mem_cons_of_mem _ (List.mem_cons_of_mem _ (List.mem_cons_of_mem _ (List.mem_cons_of_mem _ List.mem_cons_self)))), (List.forall_mem_cons.mpr ⟨(List.mem_cons_of_mem _ (List.mem_cons_of_mem _ (List.mem_cons_of_mem _ (List.mem_cons_of_mem _ (List.mem_cons_of_mem _ List.mem_cons_self))))), (fun _ h => absurd h List.not_mem_nil)⟩)⟩)⟩)⟩)⟩)⟩)⟩), show ([5, 4, 3, 0, 1, 2, 6] : List Nat).Nodup by decide⟩ (C_cu_loop hS hs hL h0 h40 hq hci n (k + 1) _ _ _ _ (by omega) ?_)
                first
                  | exact (dM_n (fun z => by have y := z.1; rw [rx, iv_of g4415] at y; exact c4417 y)).trans hD
                  | exact (dM_n (fun z => by have y := c4423; have z2 := z.2; rw [rx] at z2; rw [if_pos z2] at y; exact absurd y (by decide))).trans hD
                  | (refine (dM_y ⟨by rw [rx, iv_of g4415]; exact Decidable.not_not.mp c4417, by have y := c4423; rw [rx]; by_cases z : okP (mR h x) (iv h q 3) (iv h q 2) (iv h q 4) (iv h q 5) (iv h q 6); exact z; rw [if_neg z] at y; exact absurd rfl y⟩).trans ?_; rw [hD, rx]; unfold stM; dsimp only; rw [if_pos (Int32.not_le.mp c4387)])
                  | (refine (dM_y ⟨by rw [rx, iv_of g4415]; exact Decidable.not_not.mp c4417, by have y := c4423; rw [rx]; by_cases z : okP (mR h x) (iv h q 3) (iv h q 2) (iv h q 4) (iv h q 5) (iv h q 6); exact z; rw [if_neg z] at y; exact absurd rfl y⟩).trans ?_; rw [hD, rx, iv_of g4277]; unfold stM; dsimp only; rw [if_neg (Int32.not_lt.mpr c4387), if_pos (Or.inl c4146)])
                  | (refine (dM_y ⟨by rw [rx, iv_of g4415]; exact Decidable.not_not.mp c4417, by have y := c4423; rw [rx]; by_cases z : okP (mR h x) (iv h q 3) (iv h q 2) (iv h q 4) (iv h q 5) (iv h q 6); exact z; rw [if_neg z] at y; exact absurd rfl y⟩).trans ?_; rw [hD, rx, iv_of g4277]; unfold stM; dsimp only; rw [if_neg (Int32.not_lt.mpr c4387), if_pos (Or.inr (by have y := Decidable.not_not.mp c4275; have y2 := (iv_of g4305).symm.trans (iv_of g4277); rw [y2] at y; exact y))])
                  | (refine (dM_y ⟨by rw [rx, iv_of g4415]; exact Decidable.not_not.mp c4417, by have y := c4423; rw [rx]; by_cases z : okP (mR h x) (iv h q 3) (iv h q 2) (iv h q 4) (iv h q 5) (iv h q 6); exact z; rw [if_neg z] at y; exact absurd rfl y⟩).trans ?_; rw [hD, rx, iv_of g4305]; unfold stM; dsimp only; rw [if_neg (Int32.not_lt.mpr c4387), if_neg (fun z => by rcases z with z | z; exact c4146 z; exact c4275 z)])
              · cases e4423
                have c4423 := ndc q4423
                refine zSaload (m := 2) (k := 6) vr_135_56 rfl rfl rfl ?_
                refine zScall vr_135_58 rfl rfl rfl (fun m4427 _ => C_stV _ _ _ _ f3 f4 f6 ra rb) (fun v4427 h4427 u4427 q4427 => ?_) (fun E4427 h4427 u4427 q4427 => ?_)
                · obtain ⟨eh4427, z4427⟩ := q4427
                  replace eh4427 := eh4427.symm
                  subst eh4427
                  cases z4427
                  show zL zrx zi _ 135 61 [(6, _), (5, _), (4, _), (3, _), (0, _), (1, _), (2, _)] [_] _ _ _
                  refine zSiload (m := 1) (k := 3) vr_135_61 rfl rfl rfl (fun x4428 e4428 => ?_)
                  cases e4428
                  refine zSb2 (f := fun x y => decide (y ≤ x)) (off := 6) (t := 68) vr_135_62 rfl rfl rfl (fun x4429 y4429 e4429 f4429 q4429 => ?_) (fun x4429 y4429 e4429 f4429 q4429 => ?_)
                  · cases e4429
                    cases f4429
                    have c4429 := of_decide_eq_true q4429
                    refine zSaload (m := 2) (k := 6) vr_135_68 rfl rfl rfl ?_
                    refine zScall vr_135_70 rfl rfl rfl (fun m4431 _ => C_stV _ _ _ _ f3 f4 f6 ra rb) (fun v4431 h4431 u4431 q4431 => ?_) (fun E4431 h4431 u4431 q4431 => ?_)
                    · obtain ⟨eh4431, z4431⟩ := q4431
                      replace eh4431 := eh4431.symm
                      subst eh4431
                      cases z4431
                      show zL zrx zi _ 135 73 [(6, _), (5, _), (4, _), (3, _), (0, _), (1, _), (2, _)] [_] _ _ _
                      refine zSiload (m := 1) (k := 3) vr_135_73 rfl rfl rfl (fun x4432 e4432 => ?_)
                      cases e4432
                      refine zSb2 (f := fun x y => decide (y < x)) (off := 13) (t := 87) vr_135_74 rfl rfl rfl (fun x4433 y4433 e4433 f4433 q4433 => ?_) (fun x4433 y4433 e4433 f4433 q4433 => ?_)
                      · cases e4433
                        cases f4433
                        have c4433 := of_decide_eq_true q4433
                        refine zSaload (m := 2) (k := 6) vr_135_87 rfl rfl rfl ?_
                        refine zLget vr_135_89 rfl (fun p4435 w4435 e4435 t4435 g4435 => ?_)
                        cases e4435
                        first | (rw [(st_213_7 hS)] at g4435; cases g4435) | skip
                        refine zSgo (t := 97) vr_135_92 rfl rfl ?_
                        refine zSistore (m := 2) (k := 4) vr_135_97 rfl rfl (fun x4437 e4437 => ?_)
                        cases e4437
                        show zL zrx zi _ 135 99 [(4, _), (6, _), (5, _), (3, _), (0, _), (1, _), (2, _)] [] _ _ _
                        refine zSaload (m := 2) (k := 6) vr_135_99 rfl rfl rfl ?_
                        refine zScall vr_135_101 rfl rfl rfl (fun m4439 _ => C_stV _ _ _ _ f3 f4 f6 ra rb) (fun v4439 h4439 u4439 q4439 => ?_) (fun E4439 h4439 u4439 q4439 => ?_)
                        · obtain ⟨eh4439, z4439⟩ := q4439
                          replace eh4439 := eh4439.symm
                          subst eh4439
                          cases z4439
                          show zL zrx zi _ 135 104 [(4, _), (6, _), (5, _), (3, _), (0, _), (1, _), (2, _)] [_] _ _ _
                          refine zSistore (m := 1) (k := 3) vr_135_104 rfl rfl (fun x4440 e4440 => ?_)
                          cases e4440
                          show zL zrx zi _ 135 105 [(3, _), (4, _), (6, _), (5, _), (0, _), (1, _), (2, _)] [] _ _ _
                          refine zSiinc vr_135_105 rfl rfl (fun x4441 e4441 => ?_)
                          cases e4441
                          show zL zrx zi _ 135 108 [(5, _), (3, _), (4, _), (6, _), (0, _), (1, _), (2, _)] [] _ _ _
                          refine zSgo (t := 8) vr_135_108 rfl rfl ?_
                          rw [ofNat_succ]
                          refine zL_pm _ _ _ [(5, _), (4, _), (3, _), (0, _), (1, _), (2, _), (6, _)] _ _ _ _ _ ⟨(List.forall_mem_cons.mpr ⟨List.mem_cons_self, (List.forall_mem_cons.mpr ⟨(List.mem_cons_of_mem _ (List.mem_cons_of_mem _ List.mem_cons_self)), (List.forall_mem_cons.mpr ⟨(List.mem_cons_of_mem _ List.mem_cons_self), (List.forall_mem_cons.mpr ⟨(List.mem_cons_of_mem _ (List.mem_cons_of_mem _ (List.mem_cons_of_mem _ (List.mem_cons_of_mem _ (List.mem_cons_of_mem _ (List.mem_cons_of_mem _ List.mem_cons_self)))))), (List.forall_mem_cons.mpr ⟨(List.mem_cons_of_mem _ (List.mem_cons_of_mem _ (List.mem_cons_of_mem _ List.mem_cons_self))), (List.forall_mem_cons.mpr ⟨(List.mem_cons_of_mem _ (List.mem_cons_of_mem _ (List.mem_cons_of_mem _ (List.mem_cons_of_mem _ List.mem_cons_self)))), (List.forall_mem_cons.mpr ⟨(List.mem_cons_of_mem _ (List.mem_cons_of_mem _ (List.mem_cons_of_mem _ (List.mem_cons_of_mem _ (List.mem_cons_of_mem _ List.mem_cons_self))))), (fun _ h => absurd h List.not_mem_nil)⟩)⟩)⟩)⟩)⟩)⟩)⟩), show ([5, 4, 3, 0, 1, 2, 6] : List Nat).Nodup by decide⟩ (C_cu_loop hS hs hL h0 h40 hq hci n (k + 1) _ _ _ _ (by omega) ?_)
                          first
                            | exact (dM_n (fun z => by have y := z.1; rw [rx, iv_of g4415] at y; exact c4417 y)).trans hD
                            | exact (dM_n (fun z => by have y := c4423; have z2 := z.2; rw [rx] at z2; rw [if_pos z2] at y; exact absurd y (by decide))).trans hD
                            | (refine (dM_y ⟨by rw [rx, iv_of g4415]; exact Decidable.not_not.mp c4417, by have y := c4423; rw [rx]; by_cases z : okP (mR h x) (iv h q 3) (iv h q 2) (iv h q 4) (iv h q 5) (iv h q 6); exact z; rw [if_neg z] at y; exact absurd rfl y⟩).trans ?_; rw [hD, rx]; unfold stM; dsimp only; rw [if_pos (Int32.not_le.mp c4429)])
                            | (refine (dM_y ⟨by rw [rx, iv_of g4415]; exact Decidable.not_not.mp c4417, by have y := c4423; rw [rx]; by_cases z : okP (mR h x) (iv h q 3) (iv h q 2) (iv h q 4) (iv h q 5) (iv h q 6); exact z; rw [if_neg z] at y; exact absurd rfl y⟩).trans ?_; rw [hD, rx, iv_of g4435]; unfold stM; dsimp only; rw [if_neg (Int32.not_lt.mpr c4429), if_pos (Or.inl c4433)])
                            | (refine (dM_y ⟨by rw [rx, iv_of g4415]; exact Decidable.not_not.mp c4417, by have y := c4423; rw [rx]; by_cases z : okP (mR h x) (iv h q 3) (iv h q 2) (iv h q 4) (iv h q 5) (iv h q 6); exact z; rw [if_neg z] at y; exact absurd rfl y⟩).trans ?_; rw [hD, rx, iv_of g4435]; unfold stM; dsimp only; rw [if_neg (Int32.not_lt.mpr c4429), if_pos (Or.inr (by have y := Decidable.not_not.mp c4275; have y2 := (iv_of g4305).symm.trans (iv_of g4435); rw [y2] at y; exact y))])
                            | (refine (dM_y ⟨by rw [rx, iv_of g4415]; exact Decidable.not_not.mp c4417, by have y := c4423; rw [rx]; by_cases z : okP (mR h x) (iv h q 3) (iv h q 2) (iv h q 4) (iv h q 5) (iv h q 6); exact z; rw [if_neg z] at y; exact absurd rfl y⟩).trans ?_; rw [hD, rx, iv_of g4305]; unfold stM; dsimp only; rw [if_neg (Int32.not_lt.mpr c4429), if_neg (fun z => by rcases z with z | z; exact c4433 z; exact c4275 z)])
                        · obtain ⟨-, z⟩ := q4439
                          cases z
                      · cases e4433
                        cases f4433
                        have c4433 := ndc q4433
                        refine zSiload (m := 2) (k := 4) vr_135_77 rfl rfl rfl (fun x4443 e4443 => ?_)
                        cases e4443
                        refine zSaload (m := 2) (k := 6) vr_135_79 rfl rfl rfl ?_
                        refine zLget vr_135_81 rfl (fun p4445 w4445 e4445 t4445 g4445 => ?_)
                        cases e4445
                        first | (rw [(st_213_7 hS)] at g4445; cases g4445) | skip
                        refine zSb2 (f := fun x y => decide (¬ x = y)) (off := 11) (t := 95) vr_135_84 rfl rfl rfl (fun x4446 y4446 e4446 f4446 q4446 => ?_) (fun x4446 y4446 e4446 f4446 q4446 => ?_)
                        · cases e4446
                          cases f4446
                          have c4446 := of_decide_eq_true q4446
                          refine zSp0 (pc' := 97) (st' := .int (-2) :: _) vr_135_95 rfl rfl ?_
                          refine zSistore (m := 2) (k := 4) vr_135_97 rfl rfl (fun x4448 e4448 => ?_)
                          cases e4448
                          show zL zrx zi _ 135 99 [(4, _), (6, _), (5, _), (3, _), (0, _), (1, _), (2, _)] [] _ _ _
                          refine zSaload (m := 2) (k := 6) vr_135_99 rfl rfl rfl ?_
                          refine zScall vr_135_101 rfl rfl rfl (fun m4450 _ => C_stV _ _ _ _ f3 f4 f6 ra rb) (fun v4450 h4450 u4450 q4450 => ?_) (fun E4450 h4450 u4450 q4450 => ?_)
                          · obtain ⟨eh4450, z4450⟩ := q4450
                            replace eh4450 := eh4450.symm
                            subst eh4450
                            cases z4450
                            show zL zrx zi _ 135 104 [(4, _), (6, _), (5, _), (3, _), (0, _), (1, _), (2, _)] [_] _ _ _
                            refine zSistore (m := 1) (k := 3) vr_135_104 rfl rfl (fun x4451 e4451 => ?_)
                            cases e4451
                            show zL zrx zi _ 135 105 [(3, _), (4, _), (6, _), (5, _), (0, _), (1, _), (2, _)] [] _ _ _
                            refine zSiinc vr_135_105 rfl rfl (fun x4452 e4452 => ?_)
                            cases e4452
                            show zL zrx zi _ 135 108 [(5, _), (3, _), (4, _), (6, _), (0, _), (1, _), (2, _)] [] _ _ _
                            refine zSgo (t := 8) vr_135_108 rfl rfl ?_
                            rw [ofNat_succ]
                            refine zL_pm _ _ _ [(5, _), (4, _), (3, _), (0, _), (1, _), (2, _), (6, _)] _ _ _ _ _ ⟨(List.forall_mem_cons.mpr ⟨List.mem_cons_self, (List.forall_mem_cons.mpr ⟨(List.mem_cons_of_mem _ (List.mem_cons_of_mem _ List.mem_cons_self)), (List.forall_mem_cons.mpr ⟨(List.mem_cons_of_mem _ List.mem_cons_self), (List.forall_mem_cons.mpr ⟨(List.mem_cons_of_mem _ (List.mem_cons_of_mem _ (List.mem_cons_of_mem _ (List.mem_cons_of_mem _ (List.mem_cons_of_mem _ (List.mem_cons_of_mem _ List.mem_cons_self)))))), (List.forall_mem_cons.mpr ⟨(List.mem_cons_of_mem _ (List.mem_cons_of_mem _ (List.mem_cons_of_mem _ List.mem_cons_self))), (List.forall_mem_cons.mpr ⟨(List.mem_cons_of_mem _ (List.mem_cons_of_mem _ (List.mem_cons_of_mem _ (List.mem_cons_of_mem _ List.mem_cons_self)))), (List.forall_mem_cons.mpr ⟨(List.mem_cons_of_mem _ (List.mem_cons_of_mem _ (List.mem_cons_of_mem _ (List.mem_cons_of_mem _ (List.mem_cons_of_mem _ List.mem_cons_self))))), (fun _ h => absurd h List.not_mem_nil)⟩)⟩)⟩)⟩)⟩)⟩)⟩), show ([5, 4, 3, 0, 1, 2, 6] : List Nat).Nodup by decide⟩ (C_cu_loop hS hs hL h0 h40 hq hci n (k + 1) _ _ _ _ (by omega) ?_)
                            first
                              | exact (dM_n (fun z => by have y := z.1; rw [rx, iv_of g4415] at y; exact c4417 y)).trans hD
                              | exact (dM_n (fun z => by have y := c4423; have z2 := z.2; rw [rx] at z2; rw [if_pos z2] at y; exact absurd y (by decide))).trans hD
                              | (refine (dM_y ⟨by rw [rx, iv_of g4415]; exact Decidable.not_not.mp c4417, by have y := c4423; rw [rx]; by_cases z : okP (mR h x) (iv h q 3) (iv h q 2) (iv h q 4) (iv h q 5) (iv h q 6); exact z; rw [if_neg z] at y; exact absurd rfl y⟩).trans ?_; rw [hD, rx]; unfold stM; dsimp only; rw [if_pos (Int32.not_le.mp c4429)])
                              | (refine (dM_y ⟨by rw [rx, iv_of g4415]; exact Decidable.not_not.mp c4417, by have y := c4423; rw [rx]; by_cases z : okP (mR h x) (iv h q 3) (iv h q 2) (iv h q 4) (iv h q 5) (iv h q 6); exact z; rw [if_neg z] at y; exact absurd rfl y⟩).trans ?_; rw [hD, rx, iv_of g4435]; unfold stM; dsimp only; rw [if_neg (Int32.not_lt.mpr c4429), if_pos (Or.inl c4433)])
                              | (refine (dM_y ⟨by rw [rx, iv_of g4415]; exact Decidable.not_not.mp c4417, by have y := c4423; rw [rx]; by_cases z : okP (mR h x) (iv h q 3) (iv h q 2) (iv h q 4) (iv h q 5) (iv h q 6); exact z; rw [if_neg z] at y; exact absurd rfl y⟩).trans ?_; rw [hD, rx, iv_of g4435]; unfold stM; dsimp only; rw [if_neg (Int32.not_lt.mpr c4429), if_pos (Or.inr (by have y := Decidable.not_not.mp c4446; have y2 := (iv_of g4445).symm.trans (iv_of g4435); rw [y2] at y; exact y))])
                              | (refine (dM_y ⟨by rw [rx, iv_of g4415]; exact Decidable.not_not.mp c4417, by have y := c4423; rw [rx]; by_cases z : okP (mR h x) (iv h q 3) (iv h q 2) (iv h q 4) (iv h q 5) (iv h q 6); exact z; rw [if_neg z] at y; exact absurd rfl y⟩).trans ?_; rw [hD, rx, iv_of g4445]; unfold stM; dsimp only; rw [if_neg (Int32.not_lt.mpr c4429), if_neg (fun z => by rcases z with z | z; exact c4433 z; exact c4446 z)])
                          · obtain ⟨-, z⟩ := q4450
                            cases z
                        · cases e4446
                          cases f4446
                          have c4446 := ndc q4446
                          refine zSaload (m := 2) (k := 6) vr_135_87 rfl rfl rfl ?_
                          refine zLget vr_135_89 rfl (fun p4455 w4455 e4455 t4455 g4455 => ?_)
                          cases e4455
                          first | (rw [(st_213_7 hS)] at g4455; cases g4455) | skip
                          refine zSgo (t := 97) vr_135_92 rfl rfl ?_
                          refine zSistore (m := 2) (k := 4) vr_135_97 rfl rfl (fun x4457 e4457 => ?_)
                          cases e4457
                          show zL zrx zi _ 135 99 [(4, _), (6, _), (5, _), (3, _), (0, _), (1, _), (2, _)] [] _ _ _
                          refine zSaload (m := 2) (k := 6) vr_135_99 rfl rfl rfl ?_
                          refine zScall vr_135_101 rfl rfl rfl (fun m4459 _ => C_stV _ _ _ _ f3 f4 f6 ra rb) (fun v4459 h4459 u4459 q4459 => ?_) (fun E4459 h4459 u4459 q4459 => ?_)
                          · obtain ⟨eh4459, z4459⟩ := q4459
                            replace eh4459 := eh4459.symm
                            subst eh4459
                            cases z4459
                            show zL zrx zi _ 135 104 [(4, _), (6, _), (5, _), (3, _), (0, _), (1, _), (2, _)] [_] _ _ _
                            refine zSistore (m := 1) (k := 3) vr_135_104 rfl rfl (fun x4460 e4460 => ?_)
                            cases e4460
                            show zL zrx zi _ 135 105 [(3, _), (4, _), (6, _), (5, _), (0, _), (1, _), (2, _)] [] _ _ _
                            refine zSiinc vr_135_105 rfl rfl (fun x4461 e4461 => ?_)
                            cases e4461
                            show zL zrx zi _ 135 108 [(5, _), (3, _), (4, _), (6, _), (0, _), (1, _), (2, _)] [] _ _ _
                            refine zSgo (t := 8) vr_135_108 rfl rfl ?_
                            rw [ofNat_succ]
                            refine zL_pm _ _ _ [(5, _), (4, _), (3, _), (0, _), (1, _), (2, _), (6, _)] _ _ _ _ _ ⟨(List.forall_mem_cons.mpr ⟨List.mem_cons_self, (List.forall_mem_cons.mpr ⟨(List.mem_cons_of_mem _ (List.mem_cons_of_mem _ List.mem_cons_self)), (List.forall_mem_cons.mpr ⟨(List.mem_cons_of_mem _ List.mem_cons_self), (List.forall_mem_cons.mpr ⟨(List.mem_cons_of_mem _ (List.mem_cons_of_mem _ (List.mem_cons_of_mem _ (List.mem_cons_of_mem _ (List.mem_cons_of_mem _ (List.mem_cons_of_mem _ List.mem_cons_self)))))), (List.forall_mem_cons.mpr ⟨(List.mem_cons_of_mem _ (List.mem_cons_of_mem _ (List.mem_cons_of_mem _ List.mem_cons_self))), (List.forall_mem_cons.mpr ⟨(List.mem_cons_of_mem _ (List.mem_cons_of_mem _ (List.mem_cons_of_mem _ (List.mem_cons_of_mem _ List.mem_cons_self)))), (List.forall_mem_cons.mpr ⟨(List.mem_cons_of_mem _ (List.mem_cons_of_mem _ (List.mem_cons_of_mem _ (List.mem_cons_of_mem _ (List.mem_cons_of_mem _ List.mem_cons_self))))), (fun _ h => absurd h List.not_mem_nil)⟩)⟩)⟩)⟩)⟩)⟩)⟩), show ([5, 4, 3, 0, 1, 2, 6] : List Nat).Nodup by decide⟩ (C_cu_loop hS hs hL h0 h40 hq hci n (k + 1) _ _ _ _ (by omega) ?_)
                            first
                              | exact (dM_n (fun z => by have y := z.1; rw [rx, iv_of g4415] at y; exact c4417 y)).trans hD
                              | exact (dM_n (fun z => by have y := c4423; have z2 := z.2; rw [rx] at z2; rw [if_pos z2] at y; exact absurd y (by decide))).trans hD
                              | (refine (dM_y ⟨by rw [rx, iv_of g4415]; exact Decidable.not_not.mp c4417, by have y := c4423; rw [rx]; by_cases z : okP (mR h x) (iv h q 3) (iv h q 2) (iv h q 4) (iv h q 5) (iv h q 6); exact z; rw [if_neg z] at y; exact absurd rfl y⟩).trans ?_; rw [hD, rx]; unfold stM; dsimp only; rw [if_pos (Int32.not_le.mp c4429)])
                              | (refine (dM_y ⟨by rw [rx, iv_of g4415]; exact Decidable.not_not.mp c4417, by have y := c4423; rw [rx]; by_cases z : okP (mR h x) (iv h q 3) (iv h q 2) (iv h q 4) (iv h q 5) (iv h q 6); exact z; rw [if_neg z] at y; exact absurd rfl y⟩).trans ?_; rw [hD, rx, iv_of g4455]; unfold stM; dsimp only; rw [if_neg (Int32.not_lt.mpr c4429), if_pos (Or.inl c4433)])
                              | (refine (dM_y ⟨by rw [rx, iv_of g4415]; exact Decidable.not_not.mp c4417, by have y := c4423; rw [rx]; by_cases z : okP (mR h x) (iv h q 3) (iv h q 2) (iv h q 4) (iv h q 5) (iv h q 6); exact z; rw [if_neg z] at y; exact absurd rfl y⟩).trans ?_; rw [hD, rx, iv_of g4455]; unfold stM; dsimp only; rw [if_neg (Int32.not_lt.mpr c4429), if_pos (Or.inr (by have y := Decidable.not_not.mp c4446; have y2 := (iv_of g4445).symm.trans (iv_of g4455); rw [y2] at y; exact y))])
                              | (refine (dM_y ⟨by rw [rx, iv_of g4415]; exact Decidable.not_not.mp c4417, by have y := c4423; rw [rx]; by_cases z : okP (mR h x) (iv h q 3) (iv h q 2) (iv h q 4) (iv h q 5) (iv h q 6); exact z; rw [if_neg z] at y; exact absurd rfl y⟩).trans ?_; rw [hD, rx, iv_of g4445]; unfold stM; dsimp only; rw [if_neg (Int32.not_lt.mpr c4429), if_neg (fun z => by rcases z with z | z; exact c4433 z; exact c4446 z)])
                          · obtain ⟨-, z⟩ := q4459
                            cases z
                    · obtain ⟨-, z⟩ := q4431
                      cases z
                  · cases e4429
                    cases f4429
                    have c4429 := ndc q4429
                    refine zSgo (t := 105) vr_135_65 rfl rfl ?_
                    refine zSiinc vr_135_105 rfl rfl (fun x4464 e4464 => ?_)
                    cases e4464
                    show zL zrx zi _ 135 108 [(5, _), (6, _), (4, _), (3, _), (0, _), (1, _), (2, _)] [] _ _ _
                    refine zSgo (t := 8) vr_135_108 rfl rfl ?_
                    rw [ofNat_succ]
                    refine zL_pm _ _ _ [(5, _), (4, _), (3, _), (0, _), (1, _), (2, _), (6, _)] _ _ _ _ _ ⟨(List.forall_mem_cons.mpr ⟨List.mem_cons_self, (List.forall_mem_cons.mpr ⟨(List.mem_cons_of_mem _ (List.mem_cons_of_mem _ (List.mem_cons_of_mem _ (List.mem_cons_of_mem _ (List.mem_cons_of_mem _ (List.mem_cons_of_mem _ List.mem_cons_self)))))), (List.forall_mem_cons.mpr ⟨(List.mem_cons_of_mem _ List.mem_cons_self), (List.forall_mem_cons.mpr ⟨(List.mem_cons_of_mem _ (List.mem_cons_of_mem _ List.mem_cons_self)), (List.forall_mem_cons.mpr ⟨(List.mem_cons_of_mem _ (List.mem_cons_of_mem _ (List.mem_cons_of_mem _ List.mem_cons_self))), (List.forall_mem_cons.mpr ⟨(List.mem_cons_of_mem _ (List.mem_cons_of_mem _ (List.mem_cons_of_mem _ (List.mem_cons_of_mem _ List.mem_cons_self)))), (List.forall_mem_cons.mpr ⟨(List.mem_cons_of_mem _ (List.mem_cons_of_mem _ (List.mem_cons_of_mem _ (List.mem_cons_of_mem _ (List.mem_cons_of_mem _ List.mem_cons_self))))), (fun _ h => absurd h List.not_mem_nil)⟩)⟩)⟩)⟩)⟩)⟩)⟩), show ([5, 4, 3, 0, 1, 2, 6] : List Nat).Nodup by decide⟩ (C_cu_loop hS hs hL h0 h40 hq hci n (k + 1) _ _ _ _ (by omega) ?_)
                    first
                      | exact (dM_n (fun z => by have y := z.1; rw [rx, iv_of g4415] at y; exact c4417 y)).trans hD
                      | exact (dM_n (fun z => by have y := c4423; have z2 := z.2; rw [rx] at z2; rw [if_pos z2] at y; exact absurd y (by decide))).trans hD
                      | (refine (dM_y ⟨by rw [rx, iv_of g4415]; exact Decidable.not_not.mp c4417, by have y := c4423; rw [rx]; by_cases z : okP (mR h x) (iv h q 3) (iv h q 2) (iv h q 4) (iv h q 5) (iv h q 6); exact z; rw [if_neg z] at y; exact absurd rfl y⟩).trans ?_; rw [hD, rx]; unfold stM; dsimp only; rw [if_pos (Int32.not_le.mp c4429)])
                      | (refine (dM_y ⟨by rw [rx, iv_of g4415]; exact Decidable.not_not.mp c4417, by have y := c4423; rw [rx]; by_cases z : okP (mR h x) (iv h q 3) (iv h q 2) (iv h q 4) (iv h q 5) (iv h q 6); exact z; rw [if_neg z] at y; exact absurd rfl y⟩).trans ?_; rw [hD, rx, iv_of g4455]; unfold stM; dsimp only; rw [if_neg (Int32.not_lt.mpr c4429), if_pos (Or.inl c4433)])
                      | (refine (dM_y ⟨by rw [rx, iv_of g4415]; exact Decidable.not_not.mp c4417, by have y := c4423; rw [rx]; by_cases z : okP (mR h x) (iv h q 3) (iv h q 2) (iv h q 4) (iv h q 5) (iv h q 6); exact z; rw [if_neg z] at y; exact absurd rfl y⟩).trans ?_; rw [hD, rx, iv_of g4455]; unfold stM; dsimp only; rw [if_neg (Int32.not_lt.mpr c4429), if_pos (Or.inr (by have y := Decidable.not_not.mp c4446; have y2 := (iv_of g4445).symm.trans (iv_of g4455); rw [y2] at y; exact y))])
                      | (refine (dM_y ⟨by rw [rx, iv_of g4415]; exact Decidable.not_not.mp c4417, by have y := c4423; rw [rx]; by_cases z : okP (mR h x) (iv h q 3) (iv h q 2) (iv h q 4) (iv h q 5) (iv h q 6); exact z; rw [if_neg z] at y; exact absurd rfl y⟩).trans ?_; rw [hD, rx, iv_of g4445]; unfold stM; dsimp only; rw [if_neg (Int32.not_lt.mpr c4429), if_neg (fun z => by rcases z with z | z; exact c4433 z; exact c4446 z)])
                · obtain ⟨-, z⟩ := q4427
                  cases z
            · obtain ⟨-, z⟩ := q4422
              cases z
        · obtain ⟨-, -, w, z, -⟩ := q4411
          cases z
    · obtain ⟨-, z⟩ := q4404
      cases z
theorem C_custom (n : Nat) (par : Int32) (q : Nat) (h : List zC) (u : Nat) {cnt : Int32} {el : Nat} (hS : Stc h) (hs : gF h 223 2 = some (.int cnt)) (hL : gF h 223 1 = some (.ref el)) (h0 : 0 ≤ cnt.toInt) (h40 : cnt.toInt ≤ 40) (hq : ∀ k, k < cnt.toNatClampNeg → ∃ x : Nat, gF h el k = some (.ref x) ∧ RI h x ∧ ∃ a b c : Int32, gF h x 3 = some (.int a) ∧ gF h x 4 = some (.int b) ∧ gF h x 6 = some (.int c) ∧ rI 0 63 a ∧ rI 0 63 b) (hci : CI h q) : zL zrx zi n 135 0 [(0, .ref 213), (1, .int par), (2, .ref q)] [] h u (fun o h2 _ => h2 = h ∧ o = .inl (some (.int (cuM (dM h el par (iv h q 3) (iv h q 2) (iv h q 4) (iv h q 5) (iv h q 6)) cnt.toNatClampNeg).1))) := by
  refine zSp0 (pc' := 1) (st' := .int (-1) :: _) vr_135_0 rfl rfl ?_
  refine zSistore (m := 1) (k := 3) vr_135_1 rfl rfl (fun x4467 e4467 => ?_)
  cases e4467
  show zL zrx zi _ 135 2 [(3, _), (0, _), (1, _), (2, _)] [] _ _ _
  refine zSp0 (pc' := 3) (st' := .int (-1) :: _) vr_135_2 rfl rfl ?_
  refine zSistore (m := 2) (k := 4) vr_135_3 rfl rfl (fun x4469 e4469 => ?_)
  cases e4469
  show zL zrx zi _ 135 5 [(4, _), (3, _), (0, _), (1, _), (2, _)] [] _ _ _
  refine zSp0 (pc' := 6) (st' := .int (0) :: _) vr_135_5 rfl rfl ?_
  refine zSistore (m := 2) (k := 5) vr_135_6 rfl rfl (fun x4471 e4471 => ?_)
  cases e4471
  show zL zrx zi _ 135 8 [(5, _), (4, _), (3, _), (0, _), (1, _), (2, _)] [] _ _ _
  refine zL_pm _ _ _ [(5, _), (4, _), (3, _), (0, _), (1, _), (2, _), (6, _)] _ _ _ _ _ ⟨(List.forall_mem_cons.mpr ⟨List.mem_cons_self, (List.forall_mem_cons.mpr ⟨(List.mem_cons_of_mem _ List.mem_cons_self), (List.forall_mem_cons.mpr ⟨(List.mem_cons_of_mem _ (List.mem_cons_of_mem _ List.mem_cons_self)), (List.forall_mem_cons.mpr ⟨(List.mem_cons_of_mem _ (List.mem_cons_of_mem _ (List.mem_cons_of_mem _ List.mem_cons_self))), (List.forall_mem_cons.mpr ⟨(List.mem_cons_of_mem _ (List.mem_cons_of_mem _ (List.mem_cons_of_mem _ (List.mem_cons_of_mem _ List.mem_cons_self)))), (List.forall_mem_cons.mpr ⟨(List.mem_cons_of_mem _ (List.mem_cons_of_mem _ (List.mem_cons_of_mem _ (List.mem_cons_of_mem _ (List.mem_cons_of_mem _ List.mem_cons_self))))), (fun _ h => absurd h List.not_mem_nil)⟩)⟩)⟩)⟩)⟩)⟩), show ([5, 4, 3, 0, 1, 2, 6] : List Nat).Nodup by decide⟩ (C_cu_loop hS hs hL h0 h40 hq hci _ 0 (-1) (-1) .null _ (Nat.zero_le _) rfl)
set_option maxRecDepth 20000 in
theorem C_real_loop {p f : Int32} {h : List zC} (hS : Stc h) (ip : iN 6 p) : ∀ (n k : Nat) (r : Int32) (u : Nat), k ≤ 6 → rfF (fun k => iv h (19 + p.toNatClampNeg) k) f k = r → zL zrx zi n 99 5 [(4, .int (Int32.ofNat k)), (3, .int r), (0, .ref 16), (1, .int p), (2, .int f)] [] h u (fun o h2 _ => h2 = h ∧ o = .inl (some (.int (rfF (fun k => iv h (19 + p.toNatClampNeg) k) f 6))))
  | 0, _, _, _, _, _ => trivial
  | n + 1, k, r, u, hk, hD => by
    have kk := (toNat_ofNat (m := k) (by omega))
    have z6 : (6 : Int32).toInt = 6 := rfl
    have hp := iN_lt (m := 6) ip
    refine zLp vr_99_5 rfl rfl ?_
    refine zSp0 (pc' := 9) (st' := .int (6) :: _) vr_99_7 rfl rfl ?_
    refine zSb2 (f := fun x y => decide (y ≤ x)) (off := 33) (t := 42) vr_99_9 rfl rfl rfl (fun x4473 y4473 e4473 f4473 q4473 => ?_) (fun x4473 y4473 e4473 f4473 q4473 => ?_)
    · cases e4473
      cases f4473
      have c4473 := of_decide_eq_true q4473
      refine zSiload (m := 1) (k := 3) vr_99_42 rfl rfl rfl (fun x4474 e4474 => ?_)
      cases e4474
      refine zLiret vr_99_43 rfl (fun x4475 e4475 => ?_)
      cases e4475
      have y := c4473
      rw [i32_le, kk.2, z6] at y
      have e : k = 6 := by omega
      rw [← hD, e]
      exact ⟨rfl, rfl⟩
    · cases e4473
      cases f4473
      have c4473 := ndc q4473
      refine zSiload (m := 1) (k := 2) vr_99_12 rfl rfl rfl (fun x4476 e4476 => ?_)
      cases e4476
      refine zSiload (m := 2) (k := 4) vr_99_13 rfl rfl rfl (fun x4477 e4477 => ?_)
      cases e4477
      refine zS2 (f := fun x y => .int (x >>> (y &&& 31))) vr_99_15 rfl rfl (fun x4478 y4478 e4478 f4478 => ?_)
      cases e4478
      cases f4478
      refine zSp0 (pc' := 17) (st' := .int (1) :: _) vr_99_16 rfl rfl ?_
      refine zS2 (f := fun x y => .int (x &&& y)) vr_99_17 rfl rfl (fun x4480 y4480 e4480 f4480 => ?_)
      cases e4480
      cases f4480
      refine zSp0 (pc' := 19) (st' := .int (1) :: _) vr_99_18 rfl rfl ?_
      refine zSb2 (f := fun x y => decide (¬ x = y)) (off := 17) (t := 36) vr_99_19 rfl rfl rfl (fun x4482 y4482 e4482 f4482 q4482 => ?_) (fun x4482 y4482 e4482 f4482 q4482 => ?_)
      · cases e4482
        cases f4482
        have c4482 := of_decide_eq_true q4482
        refine zSiinc vr_99_36 rfl rfl (fun x4483 e4483 => ?_)
        cases e4483
        show zL zrx zi _ 99 39 [(4, _), (3, _), (0, _), (1, _), (2, _)] [] _ _ _
        refine zSgo (t := 5) vr_99_39 rfl rfl ?_
        rw [ofNat_succ]
        refine zL_pm _ _ _ [(4, _), (3, _), (0, _), (1, _), (2, _)] _ _ _ _ _ ⟨(List.forall_mem_cons.mpr ⟨List.mem_cons_self, (List.forall_mem_cons.mpr ⟨(List.mem_cons_of_mem _ List.mem_cons_self), (List.forall_mem_cons.mpr ⟨(List.mem_cons_of_mem _ (List.mem_cons_of_mem _ List.mem_cons_self)), (List.forall_mem_cons.mpr ⟨(List.mem_cons_of_mem _ (List.mem_cons_of_mem _ (List.mem_cons_of_mem _ List.mem_cons_self))), (List.forall_mem_cons.mpr ⟨(List.mem_cons_of_mem _ (List.mem_cons_of_mem _ (List.mem_cons_of_mem _ (List.mem_cons_of_mem _ List.mem_cons_self)))), (fun _ h => absurd h List.not_mem_nil)⟩)⟩)⟩)⟩)⟩), show ([4, 3, 0, 1, 2] : List Nat).Nodup by decide⟩ (C_real_loop hS ip n (k + 1) _ _ (by have y := c4473; rw [i32_le, kk.2, z6] at y; omega) ?_)
        first
          | exact (rfF_n c4482).trans hD
          | exact (rfF_y (Decidable.not_not.mp c4482)).trans (by rw [hD]; show r ||| 1 <<< (iv h (19 + p.toNatClampNeg) k &&& 31) = _; rw [← kk.1, iv_of g4290])
      · cases e4482
        cases f4482
        have c4482 := ndc q4482
        refine zSiload (m := 1) (k := 3) vr_99_22 rfl rfl rfl (fun x4485 e4485 => ?_)
        cases e4485
        refine zSp0 (pc' := 24) (st' := .int (1) :: _) vr_99_23 rfl rfl ?_
        refine zSaload (m := 1) (k := 0) vr_99_24 rfl rfl rfl ?_
        refine zLget vr_99_25 rfl (fun p4488 w4488 e4488 t4488 g4488 => ?_)
        cases e4488
        first | (rw [(st_16_5 hS)] at g4488; cases g4488) | (rw [(st_row hS hp)] at g4488; cases g4488) | skip
        refine zSiload (m := 1) (k := 1) vr_99_28 rfl rfl rfl (fun x4489 e4489 => ?_)
        cases e4489
        refine zLaald vr_99_29 rfl (fun p4490 x4490 w4490 e4490 f4490 c4490 t4490 g4490 => ?_)
        cases e4490
        cases f4490
        first | (rw [(st_16_5 hS)] at g4490; cases g4490) | (rw [(st_row hS hp)] at g4490; cases g4490) | skip
        refine zSiload (m := 2) (k := 4) vr_99_30 rfl rfl rfl (fun x4491 e4491 => ?_)
        cases e4491
        refine zLiald vr_99_32 rfl (fun p4492 x4492 w4492 e4492 f4492 c4492 t4492 g4492 => ?_)
        cases e4492
        cases f4492
        first | (rw [(st_16_5 hS)] at g4492; cases g4492) | (rw [(st_row hS hp)] at g4492; cases g4492) | skip
        refine zS2 (f := fun x y => .int (x <<< (y &&& 31))) vr_99_33 rfl rfl (fun x4493 y4493 e4493 f4493 => ?_)
        cases e4493
        cases f4493
        refine zS2 (f := fun x y => .int (x ||| y)) vr_99_34 rfl rfl (fun x4494 y4494 e4494 f4494 => ?_)
        cases e4494
        cases f4494
        refine zSistore (m := 1) (k := 3) vr_99_35 rfl rfl (fun x4495 e4495 => ?_)
        cases e4495
        show zL zrx zi _ 99 36 [(3, _), (4, _), (0, _), (1, _), (2, _)] [] _ _ _
        refine zSiinc vr_99_36 rfl rfl (fun x4496 e4496 => ?_)
        cases e4496
        show zL zrx zi _ 99 39 [(4, _), (3, _), (0, _), (1, _), (2, _)] [] _ _ _
        refine zSgo (t := 5) vr_99_39 rfl rfl ?_
        rw [ofNat_succ]
        refine zL_pm _ _ _ [(4, _), (3, _), (0, _), (1, _), (2, _)] _ _ _ _ _ ⟨(List.forall_mem_cons.mpr ⟨List.mem_cons_self, (List.forall_mem_cons.mpr ⟨(List.mem_cons_of_mem _ List.mem_cons_self), (List.forall_mem_cons.mpr ⟨(List.mem_cons_of_mem _ (List.mem_cons_of_mem _ List.mem_cons_self)), (List.forall_mem_cons.mpr ⟨(List.mem_cons_of_mem _ (List.mem_cons_of_mem _ (List.mem_cons_of_mem _ List.mem_cons_self))), (List.forall_mem_cons.mpr ⟨(List.mem_cons_of_mem _ (List.mem_cons_of_mem _ (List.mem_cons_of_mem _ (List.mem_cons_of_mem _ List.mem_cons_self)))), (fun _ h => absurd h List.not_mem_nil)⟩)⟩)⟩)⟩)⟩), show ([4, 3, 0, 1, 2] : List Nat).Nodup by decide⟩ (C_real_loop hS ip n (k + 1) _ _ (by have y := c4473; rw [i32_le, kk.2, z6] at y; omega) ?_)
        first
          | exact (rfF_n c4482).trans hD
          | exact (rfF_y (Decidable.not_not.mp c4482)).trans (by rw [hD]; show r ||| 1 <<< (iv h (19 + p.toNatClampNeg) k &&& 31) = _; rw [← kk.1, iv_of g4492])
theorem C_real (n : Nat) (p f : Int32) (h : List zC) (u : Nat) (hS : Stc h) (ip : iN 6 p) : zL zrx zi n 99 0 [(0, .ref 16), (1, .int p), (2, .int f)] [] h u (fun o h2 _ => h2 = h ∧ o = .inl (some (.int (rfF (fun k => iv h (19 + p.toNatClampNeg) k) f 6)))) := by
  refine zSp0 (pc' := 1) (st' := .int (0) :: _) vr_99_0 rfl rfl ?_
  refine zSistore (m := 1) (k := 3) vr_99_1 rfl rfl (fun x4499 e4499 => ?_)
  cases e4499
  show zL zrx zi _ 99 2 [(3, _), (0, _), (1, _), (2, _)] [] _ _ _
  refine zSp0 (pc' := 3) (st' := .int (0) :: _) vr_99_2 rfl rfl ?_
  refine zSistore (m := 2) (k := 4) vr_99_3 rfl rfl (fun x4501 e4501 => ?_)
  cases e4501
  show zL zrx zi _ 99 5 [(4, _), (3, _), (0, _), (1, _), (2, _)] [] _ _ _
  refine zL_pm _ _ _ [(4, _), (3, _), (0, _), (1, _), (2, _)] _ _ _ _ _ ⟨(List.forall_mem_cons.mpr ⟨List.mem_cons_self, (List.forall_mem_cons.mpr ⟨(List.mem_cons_of_mem _ List.mem_cons_self), (List.forall_mem_cons.mpr ⟨(List.mem_cons_of_mem _ (List.mem_cons_of_mem _ List.mem_cons_self)), (List.forall_mem_cons.mpr ⟨(List.mem_cons_of_mem _ (List.mem_cons_of_mem _ (List.mem_cons_of_mem _ List.mem_cons_self))), (List.forall_mem_cons.mpr ⟨(List.mem_cons_of_mem _ (List.mem_cons_of_mem _ (List.mem_cons_of_mem _ (List.mem_cons_of_mem _ List.mem_cons_self)))), (fun _ h => absurd h List.not_mem_nil)⟩)⟩)⟩)⟩)⟩), show ([4, 3, 0, 1, 2] : List Nat).Nodup by decide⟩ (C_real_loop hS ip _ 0 0 _ (by omega) rfl)
theorem C_dispute (n : Nat) (p q r m f a g : Int32) (h : List zC) (u : Nat) {cnt day : Int32} (hS : Stc h) (hc : gF h 16 3 = some (.int cnt)) (hd : gF h 16 0 = some (.int day)) : zL zrx zi n 62 0 [(0, .ref 16), (1, .int p), (2, .int q), (3, .int r), (4, .int m), (5, .int f), (6, .int a), (7, .int g)] [] h u (fun o h2 _ => match o with
  | .inl v => okD p q r m f a g day cnt ∧ (∃ x : Int32, v = some (.int x)) ∧ DM h h2 (189 + cnt.toNatClampNeg) cnt p q r m (rfF (fun k => iv h (19 + p.toNatClampNeg) k) f 6) a (day - g)
  | .inr E => (E = 0 ∨ E = 1 ∨ E = 2) ∧ hExt h h2 ∧ ¬ okD p q r m f a g day cnt) := by
  refine zSiload (m := 1) (k := 1) vr_62_0 rfl rfl rfl (fun x4502 e4502 => ?_)
  cases e4502
  refine zSp0 (pc' := 3) (st' := .int (6) :: _) vr_62_1 rfl rfl ?_
  refine zScall vr_62_3 rfl rfl rfl (fun m4504 _ => C_num6 _ _ _ _ (m := 6) (by rfl)) (fun v4504 h4504 u4504 q4504 => ?_) (fun E4504 h4504 u4504 q4504 => ?_)
  · obtain ⟨eh4504, rfl, r1⟩ := q4504
    replace eh4504 := eh4504.symm
    subst eh4504
    show zL zrx zi _ 62 6 [(0, _), (1, _), (2, _), (3, _), (4, _), (5, _), (6, _), (7, _)] [] _ _ _
    refine zSiload (m := 1) (k := 2) vr_62_6 rfl rfl rfl (fun x4505 e4505 => ?_)
    cases e4505
    refine zSp0 (pc' := 9) (st' := .int (6) :: _) vr_62_7 rfl rfl ?_
    refine zScall vr_62_9 rfl rfl rfl (fun m4507 _ => C_num6 _ _ _ _ (m := 6) (by rfl)) (fun v4507 h4507 u4507 q4507 => ?_) (fun E4507 h4507 u4507 q4507 => ?_)
    · obtain ⟨eh4507, rfl, r2⟩ := q4507
      replace eh4507 := eh4507.symm
      subst eh4507
      show zL zrx zi _ 62 12 [(0, _), (1, _), (2, _), (3, _), (4, _), (5, _), (6, _), (7, _)] [] _ _ _
      refine zSiload (m := 1) (k := 3) vr_62_12 rfl rfl rfl (fun x4508 e4508 => ?_)
      cases e4508
      refine zSp0 (pc' := 14) (st' := .int (4) :: _) vr_62_13 rfl rfl ?_
      refine zScall vr_62_14 rfl rfl rfl (fun m4510 _ => C_num6 _ _ _ _ (m := 4) (by rfl)) (fun v4510 h4510 u4510 q4510 => ?_) (fun E4510 h4510 u4510 q4510 => ?_)
      · obtain ⟨eh4510, rfl, r3⟩ := q4510
        replace eh4510 := eh4510.symm
        subst eh4510
        show zL zrx zi _ 62 17 [(0, _), (1, _), (2, _), (3, _), (4, _), (5, _), (6, _), (7, _)] [] _ _ _
        refine zSiload (m := 2) (k := 4) vr_62_17 rfl rfl rfl (fun x4511 e4511 => ?_)
        cases e4511
        refine zSp0 (pc' := 20) (st' := .int (4) :: _) vr_62_19 rfl rfl ?_
        refine zScall vr_62_20 rfl rfl rfl (fun m4513 _ => C_num6 _ _ _ _ (m := 4) (by rfl)) (fun v4513 h4513 u4513 q4513 => ?_) (fun E4513 h4513 u4513 q4513 => ?_)
        · obtain ⟨eh4513, rfl, r4⟩ := q4513
          replace eh4513 := eh4513.symm
          subst eh4513
          show zL zrx zi _ 62 23 [(0, _), (1, _), (2, _), (3, _), (4, _), (5, _), (6, _), (7, _)] [] _ _ _
          refine zSiload (m := 2) (k := 5) vr_62_23 rfl rfl rfl (fun x4514 e4514 => ?_)
          cases e4514
          refine zSp0 (pc' := 26) (st' := .int (0) :: _) vr_62_25 rfl rfl ?_
          refine zSp0 (pc' := 28) (st' := .int (63) :: _) vr_62_26 rfl rfl ?_
          refine zScall vr_62_28 rfl rfl rfl (fun m4517 _ => C_val _ _ _ _ _ _) (fun v4517 h4517 u4517 q4517 => ?_) (fun E4517 h4517 u4517 q4517 => ?_)
          · obtain ⟨eh4517, rfl, r5⟩ := q4517
            replace eh4517 := eh4517.symm
            subst eh4517
            show zL zrx zi _ 62 31 [(0, _), (1, _), (2, _), (3, _), (4, _), (5, _), (6, _), (7, _)] [] _ _ _
            refine zSiload (m := 2) (k := 6) vr_62_31 rfl rfl rfl (fun x4518 e4518 => ?_)
            cases e4518
            refine zSp0 (pc' := 34) (st' := .int (0) :: _) vr_62_33 rfl rfl ?_
            refine zSp0 (pc' := 37) (st' := .int (999) :: _) vr_62_34 rfl rfl ?_
            refine zScall vr_62_37 rfl rfl rfl (fun m4521 _ => C_val _ _ _ _ _ _) (fun v4521 h4521 u4521 q4521 => ?_) (fun E4521 h4521 u4521 q4521 => ?_)
            · obtain ⟨eh4521, rfl, r6⟩ := q4521
              replace eh4521 := eh4521.symm
              subst eh4521
              show zL zrx zi _ 62 40 [(0, _), (1, _), (2, _), (3, _), (4, _), (5, _), (6, _), (7, _)] [] _ _ _
              refine zSiload (m := 2) (k := 7) vr_62_40 rfl rfl rfl (fun x4522 e4522 => ?_)
              cases e4522
              refine zSp0 (pc' := 43) (st' := .int (0) :: _) vr_62_42 rfl rfl ?_
              refine zSaload (m := 1) (k := 0) vr_62_43 rfl rfl rfl ?_
              refine zLget vr_62_44 rfl (fun p4525 w4525 e4525 t4525 g4525 => ?_)
              cases e4525
              first | (rw [hd] at g4525; cases g4525) | (rw [hc] at g4525; cases g4525) | (rw [(st_16_8 hS)] at g4525; cases g4525) | (rw [(st_case hS hk)] at g4525; cases g4525) | skip
              refine zScall vr_62_47 rfl rfl rfl (fun m4526 _ => C_val _ _ _ _ _ _) (fun v4526 h4526 u4526 q4526 => ?_) (fun E4526 h4526 u4526 q4526 => ?_)
              · obtain ⟨eh4526, rfl, r7⟩ := q4526
                replace eh4526 := eh4526.symm
                subst eh4526
                show zL zrx zi _ 62 50 [(0, _), (1, _), (2, _), (3, _), (4, _), (5, _), (6, _), (7, _)] [] _ _ _
                refine zSaload (m := 1) (k := 0) vr_62_50 rfl rfl rfl ?_
                refine zLget vr_62_51 rfl (fun p4528 w4528 e4528 t4528 g4528 => ?_)
                cases e4528
                first | (rw [hd] at g4528; cases g4528) | (rw [hc] at g4528; cases g4528) | (rw [(st_16_8 hS)] at g4528; cases g4528) | (rw [(st_case hS hk)] at g4528; cases g4528) | skip
                refine zSp0 (pc' := 56) (st' := .int (24) :: _) vr_62_54 rfl rfl ?_
                refine zSb2 (f := fun x y => decide (y ≤ x)) (off := 7) (t := 63) vr_62_56 rfl rfl rfl (fun x4530 y4530 e4530 f4530 q4530 => ?_) (fun x4530 y4530 e4530 f4530 q4530 => ?_)
                · cases e4530
                  cases f4530
                  have c4530 := of_decide_eq_true q4530
                  refine zSp0 (pc' := 64) (st' := .int (0) :: _) vr_62_63 rfl rfl ?_
                  refine zScall vr_62_64 rfl rfl rfl (fun m _ => C_needState _ _ _ _) (fun v h u q => absurd rfl q.2.2) (fun E h3 u q => ?_)
                  obtain ⟨rfl, -, q2⟩ := q
                  rw [zCat_no vh_62_64_2]
                  refine ⟨Or.inr (Or.inr rfl), q2, fun z => ?_⟩
                  have y := c4530
                  have z24 : (24 : Int32).toInt = 24 := rfl
                  rw [i32_le, z24] at y
                  have := z.2.2
                  omega
                · cases e4530
                  cases f4530
                  have c4530 := ndc q4530
                  have hcn : cnt.toInt < 24 := by
                    have y := c4530
                    have z24 : (24 : Int32).toInt = 24 := rfl
                    rw [i32_le, z24] at y
                    omega
                  have hk : cnt.toNatClampNeg < 24 := by
                    show cnt.toInt.toNat < 24
                    omega
                  refine zSp0 (pc' := 60) (st' := .int (1) :: _) vr_62_59 rfl rfl ?_
                  refine zSgo (t := 64) vr_62_60 rfl rfl ?_
                  refine zScall vr_62_64 rfl rfl rfl (fun m4533 _ => C_needState _ _ _ _) (fun v4533 h4533 u4533 q4533 => ?_) (fun E4533 h4533 u4533 q4533 => ?_)
                  · obtain ⟨eh4533, rfl, -⟩ := q4533
                    replace eh4533 := eh4533.symm
                    subst eh4533
                    show zL zrx zi _ 62 67 [(0, _), (1, _), (2, _), (3, _), (4, _), (5, _), (6, _), (7, _)] [] _ _ _
                    refine zSaload (m := 1) (k := 0) vr_62_67 rfl rfl rfl ?_
                    refine zLget vr_62_68 rfl (fun p4535 w4535 e4535 t4535 g4535 => ?_)
                    cases e4535
                    first | (rw [hd] at g4535; cases g4535) | (rw [hc] at g4535; cases g4535) | (rw [(st_16_8 hS)] at g4535; cases g4535) | (rw [(st_case hS hk)] at g4535; cases g4535) | skip
                    refine zSaload (m := 1) (k := 0) vr_62_71 rfl rfl rfl ?_
                    refine zLget vr_62_72 rfl (fun p4537 w4537 e4537 t4537 g4537 => ?_)
                    cases e4537
                    first | (rw [hd] at g4537; cases g4537) | (rw [hc] at g4537; cases g4537) | (rw [(st_16_8 hS)] at g4537; cases g4537) | (rw [(st_case hS hk)] at g4537; cases g4537) | skip
                    refine zLaald vr_62_75 rfl (fun p4538 x4538 w4538 e4538 f4538 c4538 t4538 g4538 => ?_)
                    cases e4538
                    cases f4538
                    first | (rw [hd] at g4538; cases g4538) | (rw [hc] at g4538; cases g4538) | (rw [(st_16_8 hS)] at g4538; cases g4538) | (rw [(st_case hS hk)] at g4538; cases g4538) | skip
                    refine zSastore (m := 2) (k := 8) vr_62_76 rfl rfl ?_
                    show zL zrx zi _ 62 78 [(8, _), (0, _), (1, _), (2, _), (3, _), (4, _), (5, _), (6, _), (7, _)] [] _ _ _
                    refine zSaload (m := 2) (k := 8) vr_62_78 rfl rfl rfl ?_
                    refine zSiload (m := 1) (k := 1) vr_62_80 rfl rfl rfl (fun x4541 e4541 => ?_)
                    cases e4541
                    refine zLput vr_62_81 rfl (fun p4542 k4542 e4542 t4542 g4542 => ?_)
                    cases e4542
                    refine zSaload (m := 2) (k := 8) vr_62_84 rfl rfl rfl ?_
                    refine zSiload (m := 1) (k := 2) vr_62_86 rfl rfl rfl (fun x4544 e4544 => ?_)
                    cases e4544
                    refine zLput vr_62_87 rfl (fun p4545 k4545 e4545 t4545 g4545 => ?_)
                    cases e4545
                    refine zSaload (m := 2) (k := 8) vr_62_90 rfl rfl rfl ?_
                    refine zSiload (m := 1) (k := 3) vr_62_92 rfl rfl rfl (fun x4547 e4547 => ?_)
                    cases e4547
                    refine zLput vr_62_93 rfl (fun p4548 k4548 e4548 t4548 g4548 => ?_)
                    cases e4548
                    refine zSaload (m := 2) (k := 8) vr_62_96 rfl rfl rfl ?_
                    refine zSiload (m := 2) (k := 4) vr_62_98 rfl rfl rfl (fun x4550 e4550 => ?_)
                    cases e4550
                    refine zLput vr_62_100 rfl (fun p4551 k4551 e4551 t4551 g4551 => ?_)
                    cases e4551
                    have fr1 : ∀ x k, ¬ x = (189 + cnt.toNatClampNeg) → gF k4551 x k = gF h x k := fun x k z => by
                      rw [g4551.2.1, if_neg (fun y => z y.1), g4548.2.1, if_neg (fun y => z y.1), g4545.2.1, if_neg (fun y => z y.1), g4542.2.1, if_neg (fun y => z y.1)]
                    have hS1 : Stc k4551 := hS.one (by rw [g4551.1, g4548.1, g4545.1, g4542.1]) fr1 (stL_case hk)
                    have w4 : (fun k => iv k4551 (19 + p.toNatClampNeg) k) = fun k => iv h (19 + p.toNatClampNeg) k := funext (fun k => iv_eq (fr1 _ _ (by have := iN_lt (m := 6) r1; omega)))
                    refine zSaload (m := 2) (k := 8) vr_62_103 rfl rfl rfl ?_
                    refine zSaload (m := 1) (k := 0) vr_62_105 rfl rfl rfl ?_
                    refine zSiload (m := 1) (k := 1) vr_62_106 rfl rfl rfl (fun x4554 e4554 => ?_)
                    cases e4554
                    refine zSiload (m := 2) (k := 5) vr_62_107 rfl rfl rfl (fun x4555 e4555 => ?_)
                    cases e4555
                    refine zScall vr_62_109 rfl rfl rfl (fun m4556 _ => C_real _ _ _ _ _ hS1 r1) (fun v4556 h4556 u4556 q4556 => ?_) (fun E4556 h4556 u4556 q4556 => ?_)
                    · obtain ⟨eh4556, z4556⟩ := q4556
                      replace eh4556 := eh4556.symm
                      subst eh4556
                      cases z4556
                      show zL zrx zi _ 62 112 [(8, _), (0, _), (1, _), (2, _), (3, _), (4, _), (5, _), (6, _), (7, _)] [_, _] _ _ _
                      refine zLput vr_62_112 rfl (fun p4557 k4557 e4557 t4557 g4557 => ?_)
                      cases e4557
                      refine zSaload (m := 2) (k := 8) vr_62_115 rfl rfl rfl ?_
                      refine zSiload (m := 2) (k := 6) vr_62_117 rfl rfl rfl (fun x4559 e4559 => ?_)
                      cases e4559
                      refine zLput vr_62_119 rfl (fun p4560 k4560 e4560 t4560 g4560 => ?_)
                      cases e4560
                      have fr2 : ∀ x k, ¬ x = (189 + cnt.toNatClampNeg) → gF k4560 x k = gF h x k := fun x k z => by
                        rw [g4560.2.1, if_neg (fun y => z y.1), g4557.2.1, if_neg (fun y => z y.1), g4551.2.1, if_neg (fun y => z y.1), g4548.2.1, if_neg (fun y => z y.1), g4545.2.1, if_neg (fun y => z y.1), g4542.2.1, if_neg (fun y => z y.1)]
                      refine zSaload (m := 2) (k := 8) vr_62_122 rfl rfl rfl ?_
                      refine zSaload (m := 1) (k := 0) vr_62_124 rfl rfl rfl ?_
                      refine zLget vr_62_125 rfl (fun p4563 w4563 e4563 t4563 g4563 => ?_)
                      cases e4563
                      first | (rw [((fr2 16 0 (by omega)).trans hd)] at g4563; cases g4563) | skip
                      refine zSiload (m := 2) (k := 7) vr_62_128 rfl rfl rfl (fun x4564 e4564 => ?_)
                      cases e4564
                      refine zS2 (f := fun x y => .int (x - y)) vr_62_130 rfl rfl (fun x4565 y4565 e4565 f4565 => ?_)
                      cases e4565
                      cases f4565
                      refine zLput vr_62_131 rfl (fun p4566 k4566 e4566 t4566 g4566 => ?_)
                      cases e4566
                      have fr3 : ∀ x k, ¬ x = (189 + cnt.toNatClampNeg) → gF k4566 x k = gF h x k := fun x k z => by
                        rw [g4566.2.1, if_neg (fun y => z y.1), g4560.2.1, if_neg (fun y => z y.1), g4557.2.1, if_neg (fun y => z y.1), g4551.2.1, if_neg (fun y => z y.1), g4548.2.1, if_neg (fun y => z y.1), g4545.2.1, if_neg (fun y => z y.1), g4542.2.1, if_neg (fun y => z y.1)]
                      refine zSaload (m := 1) (k := 0) vr_62_134 rfl rfl rfl ?_
                      refine zSdup vr_62_135 rfl ?_
                      refine zLget vr_62_136 rfl (fun p4569 w4569 e4569 t4569 g4569 => ?_)
                      cases e4569
                      first | (rw [((fr3 16 3 (by omega)).trans hc)] at g4569; cases g4569) | skip
                      refine zSp0 (pc' := 140) (st' := .int (1) :: _) vr_62_139 rfl rfl ?_
                      refine zS2 (f := fun x y => .int (x + y)) vr_62_140 rfl rfl (fun x4571 y4571 e4571 f4571 => ?_)
                      cases e4571
                      cases f4571
                      refine zLput vr_62_141 rfl (fun p4572 k4572 e4572 t4572 g4572 => ?_)
                      cases e4572
                      have fr4 : ∀ x k, ¬ x = (189 + cnt.toNatClampNeg) → ¬ (x = 16 ∧ k = 3) → gF k4572 x k = gF h x k := fun x k z y => by
                        rw [g4572.2.1, if_neg y, fr3 x k z]
                      have cn4 : gF k4572 16 3 = some (.int (cnt + 1)) := by
                        rw [g4572.2.1, if_pos ⟨rfl, rfl⟩]
                      refine zSaload (m := 1) (k := 0) vr_62_144 rfl rfl rfl ?_
                      refine zLget vr_62_145 rfl (fun p4574 w4574 e4574 t4574 g4574 => ?_)
                      cases e4574
                      first | (rw [cn4] at g4574; cases g4574) | skip
                      refine zSp0 (pc' := 149) (st' := .int (1) :: _) vr_62_148 rfl rfl ?_
                      refine zS2 (f := fun x y => .int (x - y)) vr_62_149 rfl rfl (fun x4576 y4576 e4576 f4576 => ?_)
                      cases e4576
                      cases f4576
                      refine zLiret vr_62_150 rfl (fun x4577 e4577 => ?_)
                      cases e4577
                      exact ⟨⟨⟨r1, r2, r3, r4⟩, ⟨r5, r6, r7⟩, hcn⟩, ⟨_, rfl⟩, fr4, cn4, ⟨by rw [g4572.2.1, if_neg (by omega), g4566.2.1, if_neg (by omega), g4560.2.1, if_neg (by omega), g4557.2.1, if_neg (by omega), g4551.2.1, if_neg (by omega), g4548.2.1, if_neg (by omega), g4545.2.1, if_neg (by omega), g4542.2.1, if_pos ⟨rfl, rfl⟩], by rw [g4572.2.1, if_neg (by omega), g4566.2.1, if_neg (by omega), g4560.2.1, if_neg (by omega), g4557.2.1, if_neg (by omega), g4551.2.1, if_neg (by omega), g4548.2.1, if_neg (by omega), g4545.2.1, if_pos ⟨rfl, rfl⟩], by rw [g4572.2.1, if_neg (by omega), g4566.2.1, if_neg (by omega), g4560.2.1, if_neg (by omega), g4557.2.1, if_neg (by omega), g4551.2.1, if_neg (by omega), g4548.2.1, if_pos ⟨rfl, rfl⟩], by rw [g4572.2.1, if_neg (by omega), g4566.2.1, if_neg (by omega), g4560.2.1, if_neg (by omega), g4557.2.1, if_neg (by omega), g4551.2.1, if_pos ⟨rfl, rfl⟩], by rw [g4572.2.1, if_neg (by omega), g4566.2.1, if_neg (by omega), g4560.2.1, if_neg (by omega), g4557.2.1, if_pos ⟨rfl, rfl⟩, w4], by rw [g4572.2.1, if_neg (by omega), g4566.2.1, if_neg (by omega), g4560.2.1, if_pos ⟨rfl, rfl⟩], by rw [g4572.2.1, if_neg (by omega), g4566.2.1, if_pos ⟨rfl, rfl⟩]⟩, by rw [g4572.2.1, if_neg (by omega), g4566.2.1, if_neg (by omega), g4560.2.1, if_neg (by omega), g4557.2.1, if_neg (by omega), g4551.2.1, if_neg (by omega), g4548.2.1, if_neg (by omega), g4545.2.1, if_neg (by omega), g4542.2.1, if_neg (by omega)], by rw [g4572.2.1, if_neg (by omega), g4566.2.1, if_neg (by omega), g4560.2.1, if_neg (by omega), g4557.2.1, if_neg (by omega), g4551.2.1, if_neg (by omega), g4548.2.1, if_neg (by omega), g4545.2.1, if_neg (by omega), g4542.2.1, if_neg (by omega)], by rw [g4572.1, g4566.1, g4560.1, g4557.1, g4551.1, g4548.1, g4545.1, g4542.1], fun x => ⟨by rw [g4572.2.2.1, g4566.2.2.1, g4560.2.2.1, g4557.2.2.1, g4551.2.2.1, g4548.2.2.1, g4545.2.2.1, g4542.2.2.1], by rw [g4572.2.2.2, g4566.2.2.2, g4560.2.2.2, g4557.2.2.2, g4551.2.2.2, g4548.2.2.2, g4545.2.2.2, g4542.2.2.2]⟩⟩
                    · obtain ⟨-, z⟩ := q4556
                      cases z
                  · obtain ⟨-, z, -⟩ := q4533
                    exact absurd z (by decide)
              · obtain ⟨rfl, q1, q2⟩ := q4526
                rw [zCat_no vh_62_47_1]
                exact ⟨Or.inr (Or.inl rfl), q2, fun z => q1 z.2.1.2.2⟩
            · obtain ⟨rfl, q1, q2⟩ := q4521
              rw [zCat_no vh_62_37_1]
              exact ⟨Or.inr (Or.inl rfl), q2, fun z => q1 z.2.1.2.1⟩
          · obtain ⟨rfl, q1, q2⟩ := q4517
            rw [zCat_no vh_62_28_1]
            exact ⟨Or.inr (Or.inl rfl), q2, fun z => q1 z.2.1.1⟩
        · obtain ⟨rfl, q1, q2⟩ := q4513
          rw [zCat_no vh_62_20_0]
          exact ⟨Or.inl rfl, q2, fun z => q1 z.1.2.2.2⟩
      · obtain ⟨rfl, q1, q2⟩ := q4510
        rw [zCat_no vh_62_14_0]
        exact ⟨Or.inl rfl, q2, fun z => q1 z.1.2.2.1⟩
    · obtain ⟨rfl, q1, q2⟩ := q4507
      rw [zCat_no vh_62_9_0]
      exact ⟨Or.inl rfl, q2, fun z => q1 z.1.2.1⟩
  · obtain ⟨rfl, q1, q2⟩ := q4504
    rw [zCat_no vh_62_3_0]
    exact ⟨Or.inl rfl, q2, fun z => q1 z.1.1⟩
abbrev Q_Ldispute (cnt day : Int32) (p q r m f a g : Int32) (h : List zC) : zK := fun o h2 _ => ∃ k : Int32, o = .inl (some (.int k)) ∧ ((k = 0 ∧ okD p q r m f a g day cnt ∧ ∃ (h1 : List zC) (w : Value), DM h h1 (189 + cnt.toNatClampNeg) cnt p q r m (rfF (fun k => iv h (19 + p.toNatClampNeg) k) f 6) a (day - g) ∧ hPut h1 h2 238 0 w) ∨ (¬ k = 0 ∧ ¬ okD p q r m f a g day cnt ∧ hExt h h2))
theorem C_Ldispute (n : Nat) (p q r m f a g : Int32) (h : List zC) (u : Nat) {cnt day : Int32} (hS : Stc h) (hc : gF h 16 3 = some (.int cnt)) (hd : gF h 16 0 = some (.int day)) : zL zrx zi n 213 0 [(0, .ref 16), (1, .int p), (2, .int q), (3, .int r), (4, .int m), (5, .int f), (6, .int a), (7, .int g), (8, .ref 238)] [] h u (Q_Ldispute cnt day p q r m f a g h) := by
  refine zSaload (m := 2) (k := 8) vr_213_0 rfl rfl rfl ?_
  refine zSaload (m := 1) (k := 0) vr_213_2 rfl rfl rfl ?_
  refine zSiload (m := 1) (k := 1) vr_213_3 rfl rfl rfl (fun x4580 e4580 => ?_)
  cases e4580
  refine zSiload (m := 1) (k := 2) vr_213_4 rfl rfl rfl (fun x4581 e4581 => ?_)
  cases e4581
  refine zSiload (m := 1) (k := 3) vr_213_5 rfl rfl rfl (fun x4582 e4582 => ?_)
  cases e4582
  refine zSiload (m := 2) (k := 4) vr_213_6 rfl rfl rfl (fun x4583 e4583 => ?_)
  cases e4583
  refine zSiload (m := 2) (k := 5) vr_213_8 rfl rfl rfl (fun x4584 e4584 => ?_)
  cases e4584
  refine zSiload (m := 2) (k := 6) vr_213_10 rfl rfl rfl (fun x4585 e4585 => ?_)
  cases e4585
  refine zSiload (m := 2) (k := 7) vr_213_12 rfl rfl rfl (fun x4586 e4586 => ?_)
  cases e4586
  refine zScall vr_213_14 rfl rfl rfl (fun m4587 _ => C_dispute _ _ _ _ _ _ _ _ _ _ hS hc hd) (fun v4587 h4587 u4587 q4587 => ?_) (fun E4587 h4587 u4587 q4587 => ?_)
  · obtain ⟨k1, ⟨x4587, rfl⟩, k2⟩ := q4587
    show zL zrx zi _ 213 17 [(0, _), (1, _), (2, _), (3, _), (4, _), (5, _), (6, _), (7, _), (8, _)] [_, _] _ _ _
    refine zS1 (f := fun x => .long x.toInt64) vr_213_17 rfl rfl (fun x4588 e4588 => ?_)
    cases e4588
    refine zLput vr_213_18 rfl (fun p4589 k4589 e4589 t4589 g4589 => ?_)
    cases e4589
    have gP := g4589
    refine zSgo (t := 36) vr_213_21 rfl rfl ?_
    refine zSp0 (pc' := 37) (st' := .int (0) :: _) vr_213_36 rfl rfl ?_
    refine zLiret vr_213_37 rfl (fun x4592 e4592 => ?_)
    cases e4592
    exact ⟨_, rfl, Or.inl ⟨rfl, k1, _, _, k2, gP⟩⟩
  · obtain ⟨e, q1, z⟩ := q4587
    rcases e with rfl | rfl | rfl
    · rw [zCat_hit (k := 9) (m := 2) vh_213_14_0 vr_213_24 rfl (by decide)]
      show zL zrx zi _ 213 26 [(0, _), (1, _), (2, _), (3, _), (4, _), (5, _), (6, _), (7, _), (8, _)] [] _ _ _
      refine zSp0 (pc' := 27) (st' := .int (1) :: _) vr_213_26 rfl rfl ?_
      refine zLiret vr_213_27 rfl (fun x4594 e4594 => ?_)
      cases e4594
      exact ⟨_, rfl, Or.inr ⟨by decide, z, q1⟩⟩
    · rw [zCat_hit (k := 9) (m := 2) vh_213_14_1 vr_213_28 rfl (by decide)]
      show zL zrx zi _ 213 30 [(0, _), (1, _), (2, _), (3, _), (4, _), (5, _), (6, _), (7, _), (8, _)] [] _ _ _
      refine zSp0 (pc' := 31) (st' := .int (2) :: _) vr_213_30 rfl rfl ?_
      refine zLiret vr_213_31 rfl (fun x4596 e4596 => ?_)
      cases e4596
      exact ⟨_, rfl, Or.inr ⟨by decide, z, q1⟩⟩
    · rw [zCat_hit (k := 9) (m := 2) vh_213_14_2 vr_213_32 rfl (by decide)]
      show zL zrx zi _ 213 34 [(0, _), (1, _), (2, _), (3, _), (4, _), (5, _), (6, _), (7, _), (8, _)] [] _ _ _
      refine zSp0 (pc' := 35) (st' := .int (3) :: _) vr_213_34 rfl rfl ?_
      refine zLiret vr_213_35 rfl (fun x4598 e4598 => ?_)
      cases e4598
      exact ⟨_, rfl, Or.inr ⟨by decide, z, q1⟩⟩
theorem C_icase (n : Nat) (q : Nat) (p q2 r m f a d : Int32) (h : List zC) (u : Nat) : zL zrx zi n 124 0 [(0, .ref q), (1, .int p), (2, .int q2), (3, .int r), (4, .int m), (5, .int f), (6, .int a), (7, .int d)] [] h u (fun o h2 _ => o = .inl none ∧ IC h h2 q p q2 r m f a d) := by
  refine zSaload (m := 1) (k := 0) vr_124_0 rfl rfl rfl ?_
  refine zSobj vr_124_1 rfl ?_
  refine zSaload (m := 1) (k := 0) vr_124_4 rfl rfl rfl ?_
  refine zSp0 (pc' := 6) (st' := .int (-1) :: _) vr_124_5 rfl rfl ?_
  refine zLput vr_124_6 rfl (fun p4603 k4603 e4603 t4603 g4603 => ?_)
  cases e4603
  refine zSaload (m := 1) (k := 0) vr_124_9 rfl rfl rfl ?_
  refine zSp0 (pc' := 11) (st' := .int (-1) :: _) vr_124_10 rfl rfl ?_
  refine zLput vr_124_11 rfl (fun p4606 k4606 e4606 t4606 g4606 => ?_)
  cases e4606
  refine zSaload (m := 1) (k := 0) vr_124_14 rfl rfl rfl ?_
  refine zSiload (m := 1) (k := 1) vr_124_15 rfl rfl rfl (fun x4608 e4608 => ?_)
  cases e4608
  refine zLput vr_124_16 rfl (fun p4609 k4609 e4609 t4609 g4609 => ?_)
  cases e4609
  refine zSaload (m := 1) (k := 0) vr_124_19 rfl rfl rfl ?_
  refine zSiload (m := 1) (k := 2) vr_124_20 rfl rfl rfl (fun x4611 e4611 => ?_)
  cases e4611
  refine zLput vr_124_21 rfl (fun p4612 k4612 e4612 t4612 g4612 => ?_)
  cases e4612
  refine zSaload (m := 1) (k := 0) vr_124_24 rfl rfl rfl ?_
  refine zSiload (m := 1) (k := 3) vr_124_25 rfl rfl rfl (fun x4614 e4614 => ?_)
  cases e4614
  refine zLput vr_124_26 rfl (fun p4615 k4615 e4615 t4615 g4615 => ?_)
  cases e4615
  refine zSaload (m := 1) (k := 0) vr_124_29 rfl rfl rfl ?_
  refine zSiload (m := 2) (k := 4) vr_124_30 rfl rfl rfl (fun x4617 e4617 => ?_)
  cases e4617
  refine zLput vr_124_32 rfl (fun p4618 k4618 e4618 t4618 g4618 => ?_)
  cases e4618
  refine zSaload (m := 1) (k := 0) vr_124_35 rfl rfl rfl ?_
  refine zSiload (m := 2) (k := 5) vr_124_36 rfl rfl rfl (fun x4620 e4620 => ?_)
  cases e4620
  refine zLput vr_124_38 rfl (fun p4621 k4621 e4621 t4621 g4621 => ?_)
  cases e4621
  refine zSaload (m := 1) (k := 0) vr_124_41 rfl rfl rfl ?_
  refine zSiload (m := 2) (k := 6) vr_124_42 rfl rfl rfl (fun x4623 e4623 => ?_)
  cases e4623
  refine zLput vr_124_44 rfl (fun p4624 k4624 e4624 t4624 g4624 => ?_)
  cases e4624
  refine zSaload (m := 1) (k := 0) vr_124_47 rfl rfl rfl ?_
  refine zSiload (m := 2) (k := 7) vr_124_48 rfl rfl rfl (fun x4626 e4626 => ?_)
  cases e4626
  refine zLput vr_124_50 rfl (fun p4627 k4627 e4627 t4627 g4627 => ?_)
  cases e4627
  refine zSvoid vr_124_53 rfl ?_
  exact ⟨rfl, fun x k z => by rw [g4627.2.1, if_neg (fun y => z y.1), g4624.2.1, if_neg (fun y => z y.1), g4621.2.1, if_neg (fun y => z y.1), g4618.2.1, if_neg (fun y => z y.1), g4615.2.1, if_neg (fun y => z y.1), g4612.2.1, if_neg (fun y => z y.1), g4609.2.1, if_neg (fun y => z y.1), g4606.2.1, if_neg (fun y => z y.1), g4603.2.1, if_neg (fun y => z y.1)], ⟨by rw [g4627.2.1, if_neg (by omega), g4624.2.1, if_neg (by omega), g4621.2.1, if_neg (by omega), g4618.2.1, if_neg (by omega), g4615.2.1, if_neg (by omega), g4612.2.1, if_neg (by omega), g4609.2.1, if_pos ⟨rfl, rfl⟩], by rw [g4627.2.1, if_neg (by omega), g4624.2.1, if_neg (by omega), g4621.2.1, if_neg (by omega), g4618.2.1, if_neg (by omega), g4615.2.1, if_neg (by omega), g4612.2.1, if_pos ⟨rfl, rfl⟩], by rw [g4627.2.1, if_neg (by omega), g4624.2.1, if_neg (by omega), g4621.2.1, if_neg (by omega), g4618.2.1, if_neg (by omega), g4615.2.1, if_pos ⟨rfl, rfl⟩], by rw [g4627.2.1, if_neg (by omega), g4624.2.1, if_neg (by omega), g4621.2.1, if_neg (by omega), g4618.2.1, if_pos ⟨rfl, rfl⟩], by rw [g4627.2.1, if_neg (by omega), g4624.2.1, if_neg (by omega), g4621.2.1, if_pos ⟨rfl, rfl⟩], by rw [g4627.2.1, if_neg (by omega), g4624.2.1, if_pos ⟨rfl, rfl⟩], by rw [g4627.2.1, if_pos ⟨rfl, rfl⟩], by rw [g4627.2.1, if_neg (by omega), g4624.2.1, if_neg (by omega), g4621.2.1, if_neg (by omega), g4618.2.1, if_neg (by omega), g4615.2.1, if_neg (by omega), g4612.2.1, if_neg (by omega), g4609.2.1, if_neg (by omega), g4606.2.1, if_neg (by omega), g4603.2.1, if_pos ⟨rfl, rfl⟩], by rw [g4627.2.1, if_neg (by omega), g4624.2.1, if_neg (by omega), g4621.2.1, if_neg (by omega), g4618.2.1, if_neg (by omega), g4615.2.1, if_neg (by omega), g4612.2.1, if_neg (by omega), g4609.2.1, if_neg (by omega), g4606.2.1, if_pos ⟨rfl, rfl⟩]⟩, by rw [g4627.1, g4624.1, g4621.1, g4618.1, g4615.1, g4612.1, g4609.1, g4606.1, g4603.1], fun x => ⟨by rw [g4627.2.2.1, g4624.2.2.1, g4621.2.2.1, g4618.2.2.1, g4615.2.2.1, g4612.2.2.1, g4609.2.2.1, g4606.2.2.1, g4603.2.2.1], by rw [g4627.2.2.2, g4624.2.2.2, g4621.2.2.2, g4618.2.2.2, g4615.2.2.2, g4612.2.2.2, g4609.2.2.2, g4606.2.2.2, g4603.2.2.2]⟩⟩
abbrev Q_mdispute (lc : Nat) (cnt day p q r m f a g : Int32) (h : List zC) : zK := fun o h2 _ => ∃ (x : Int32) (h0 : List zC), o = .inl (some (.int x)) ∧ hPut h h0 213 0 (.int 0) ∧ ((okD p q r m f a g day cnt ∧ MC h h2 lc cnt p q r m (rfF (fun k => iv h (216 + p.toNatClampNeg) k) f 6) a (day - g)) ∨ (¬ okD p q r m f a g day cnt ∧ ∃ k : Int32, ¬ k = 0 ∧ hPut h0 h2 213 0 (.int k)))
set_option maxRecDepth 20000 in
theorem C_mdB {p q r m f a g cnt day : Int32} {lc l : Nat} {h hk : List zC} (hS : Stc h) (hs : gF h 224 2 = some (.int cnt)) (hL : gF h 224 1 = some (.ref lc)) (hn : gN h lc = some l) (hl2 : l < 2147483648) (tE : ∃ t, gT h lc = some t ∧ 93 ≤ t) (h24 : cnt.toInt ≤ 24) (h213 : ¬ lc = 213) (hd : gF h 213 1 = some (.int day)) (t0 : hPut h hk 213 0 (.int 0)) (ok : okD p q r m f a g day cnt) (n u : Nat) : zL zrx zi n 156 159 [(9, .int (Int32.ofNat 6)), (8, .int (rfF (fun k => iv h (216 + p.toNatClampNeg) k) f 6)), (0, .ref 213), (1, .int p), (2, .int q), (3, .int r), (4, .int m), (5, .int f), (6, .int a), (7, .int g)] [] hk u (Q_mdispute lc cnt day p q r m f a g h) := by
  have hS0 := hS.thr t0
  have f0 : ∀ q k, ¬ (q = 213 ∧ k = 0) → gF hk q k = gF h q k := fun q k z => by rw [t0.2.1, if_neg z]
  refine zSaload (m := 1) (k := 0) vr_156_159 rfl rfl rfl ?_
  refine zLget vr_156_160 rfl (fun p4630 w4630 e4630 t4630 g4630 => ?_)
  cases e4630
  first | (rw [(st_213_8 hS0)] at g4630; cases g4630) | skip
  refine zLnew2 vr_156_163 rfl (fun k4631 u4631 g4631 => ?_)
  have hd1 : gF k4631 213 1 = some (.int day) := by
    rw [g4631.ext.fld (by have := hS0.1; omega), f0 213 1 (by omega)]
    exact hd
  refine zSdup vr_156_166 rfl ?_
  refine zSiload (m := 1) (k := 1) vr_156_167 rfl rfl rfl (fun x4633 e4633 => ?_)
  cases e4633
  refine zSiload (m := 1) (k := 2) vr_156_168 rfl rfl rfl (fun x4634 e4634 => ?_)
  cases e4634
  refine zSiload (m := 1) (k := 3) vr_156_169 rfl rfl rfl (fun x4635 e4635 => ?_)
  cases e4635
  refine zSiload (m := 2) (k := 4) vr_156_170 rfl rfl rfl (fun x4636 e4636 => ?_)
  cases e4636
  refine zSiload (m := 2) (k := 8) vr_156_172 rfl rfl rfl (fun x4637 e4637 => ?_)
  cases e4637
  refine zSiload (m := 2) (k := 6) vr_156_174 rfl rfl rfl (fun x4638 e4638 => ?_)
  cases e4638
  refine zSaload (m := 1) (k := 0) vr_156_176 rfl rfl rfl ?_
  refine zLget vr_156_177 rfl (fun p4640 w4640 e4640 t4640 g4640 => ?_)
  cases e4640
  first | (rw [hd1] at g4640; cases g4640) | skip
  refine zSiload (m := 2) (k := 7) vr_156_180 rfl rfl rfl (fun x4641 e4641 => ?_)
  cases e4641
  refine zS2 (f := fun x y => .int (x - y)) vr_156_182 rfl rfl (fun x4642 y4642 e4642 f4642 => ?_)
  cases e4642
  cases f4642
  refine zScall vr_156_183 rfl rfl rfl (fun m4643 _ => C_icase _ _ _ _ _ _ _ _ _ _ _) (fun v4643 h4643 u4643 q4643 => ?_) (fun E4643 h4643 u4643 q4643 => ?_)
  · have z4643 := q4643.1
    cases z4643
    show zL zrx zi _ 156 186 [(9, _), (8, _), (0, _), (1, _), (2, _), (3, _), (4, _), (5, _), (6, _), (7, _)] [_, _] _ _ _
    have im := q4643.2
    have hel := gN_lt hn
    have lk : hk.length = h.length := t0.1
    have hh := hS.1
    have n1 : ∀ q, q < h.length → gT h4643 q = gT h q ∧ gN h4643 q = gN h q := fun q hq => by
      rw [(im.2.2.2 q).1, (im.2.2.2 q).2, (g4631.ext.T (by omega)).1, (g4631.ext.T (by omega)).2, t0.2.2.1, t0.2.2.2]
      exact ⟨rfl, rfl⟩
    have f1 : ∀ q k, q < h.length → ¬ (q = 213 ∧ k = 0) → gF h4643 q k = gF h q k := fun q k hq z => by
      rw [im.1 q k (by omega), g4631.ext.fld (by omega), f0 q k z]
    refine zScall vr_156_186 rfl rfl rfl (fun m4644 _ => C_add _ _ _ _ _ ((f1 224 1 (by omega) (by omega)).trans hL) ((f1 224 2 (by omega) (by omega)).trans hs) ((n1 lc hel).2.trans hn) hl2 (by rw [(n1 lc hel).1]; exact tE)) (fun v4644 h4644 u4644 q4644 => ?_) (fun E4644 h4644 u4644 q4644 => ?_)
    · obtain ⟨z4644, kA⟩ := q4644
      cases z4644
      show zL zrx zi _ 156 191 [(9, _), (8, _), (0, _), (1, _), (2, _), (3, _), (4, _), (5, _), (6, _), (7, _)] [_] _ _ _
      refine zSpop vr_156_191 rfl ?_
      have a7 := kA.2.2
      obtain ⟨ane, el2, b1, b2, b3, b4, b5, b6, b7⟩ := a7
      have f2 := (b6 213 (by rw [im.2.2.1, g4631.len]; omega) (by omega) (fun z => h213 z.symm) 8).trans ((f1 213 8 (by omega) (by omega)).trans (st_213_8 hS))
      refine zSaload (m := 1) (k := 0) vr_156_192 rfl rfl rfl ?_
      refine zLget vr_156_193 rfl (fun p4647 w4647 e4647 t4647 g4647 => ?_)
      cases e4647
      first | (rw [f2] at g4647; cases g4647) | skip
      refine zScall vr_156_196 rfl rfl rfl (fun m4648 _ => C_lsize _ _ _ _ b2) (fun v4648 h4648 u4648 q4648 => ?_) (fun E4648 h4648 u4648 q4648 => ?_)
      · obtain ⟨eh4648, z4648⟩ := q4648
        replace eh4648 := eh4648.symm
        subst eh4648
        cases z4648
        show zL zrx zi _ 156 201 [(9, _), (8, _), (0, _), (1, _), (2, _), (3, _), (4, _), (5, _), (6, _), (7, _)] [_] _ _ _
        refine zSp0 (pc' := 202) (st' := .int (1) :: _) vr_156_201 rfl rfl ?_
        refine zS2 (f := fun x y => .int (x - y)) vr_156_202 rfl rfl (fun x4650 y4650 e4650 f4650 => ?_)
        cases e4650
        cases f4650
        refine zLiret vr_156_203 rfl (fun x4651 e4651 => ?_)
        cases e4651
        exact ⟨_, _, rfl, t0, Or.inl ⟨ok, mc_end hh hel h213 t0 g4631 im kA⟩⟩
      · obtain ⟨-, z⟩ := q4648
        cases z
    · obtain ⟨z, -⟩ := q4644
      cases z
  · cases q4643.1
set_option maxRecDepth 20000 in
theorem C_mdL {p q r m f a g : Int32} {hk : List zC} {K : zK} (hS0 : Stc hk) (ip : iN 6 p) (W : Nat → Int32) (hW : ∀ k, W k = iv hk (216 + p.toNatClampNeg) k) (HB : ∀ n u, zL zrx zi n 156 159 [(9, .int (Int32.ofNat 6)), (8, .int (rfF W f 6)), (0, .ref 213), (1, .int p), (2, .int q), (3, .int r), (4, .int m), (5, .int f), (6, .int a), (7, .int g)] [] hk u K) : ∀ (n k : Nat) (R : Int32) (u : Nat), k ≤ 6 → rfF W f k = R → zL zrx zi n 156 116 [(9, .int (Int32.ofNat k)), (8, .int R), (0, .ref 213), (1, .int p), (2, .int q), (3, .int r), (4, .int m), (5, .int f), (6, .int a), (7, .int g)] [] hk u K
  | 0, _, _, _, _, _ => trivial
  | n + 1, k, R, u, hk6, hD => by
    have kk := (toNat_ofNat (m := k) (by omega))
    have z6 : (6 : Int32).toInt = 6 := rfl
    have hp := iN_lt (m := 6) ip
    refine zLp vr_156_116 rfl rfl ?_
    refine zSp0 (pc' := 120) (st' := .int (6) :: _) vr_156_118 rfl rfl ?_
    refine zSb2 (f := fun x y => decide (y ≤ x)) (off := 39) (t := 159) vr_156_120 rfl rfl rfl (fun x4653 y4653 e4653 f4653 q4653 => ?_) (fun x4653 y4653 e4653 f4653 q4653 => ?_)
    · cases e4653
      cases f4653
      have c4653 := of_decide_eq_true q4653
      have y := c4653
      rw [i32_le, kk.2, z6] at y
      have e : k = 6 := by omega
      subst e
      rw [← hD]
      exact HB _ _
    · cases e4653
      cases f4653
      have c4653 := ndc q4653
      refine zSiload (m := 2) (k := 8) vr_156_123 rfl rfl rfl (fun x4654 e4654 => ?_)
      cases e4654
      refine zSiload (m := 2) (k := 5) vr_156_125 rfl rfl rfl (fun x4655 e4655 => ?_)
      cases e4655
      refine zSiload (m := 2) (k := 9) vr_156_127 rfl rfl rfl (fun x4656 e4656 => ?_)
      cases e4656
      refine zScall vr_156_129 rfl rfl rfl (fun m4657 _ => C_has _ _ _ _ _) (fun v4657 h4657 u4657 q4657 => ?_) (fun E4657 h4657 u4657 q4657 => ?_)
      · obtain ⟨eh4657, z4657⟩ := q4657
        replace eh4657 := eh4657.symm
        subst eh4657
        cases z4657
        show zL zrx zi _ 156 132 [(9, _), (8, _), (0, _), (1, _), (2, _), (3, _), (4, _), (5, _), (6, _), (7, _)] [_, _] _ _ _
        refine zSb1 (f := fun x => decide (x = 0)) (off := 17) (t := 149) vr_156_132 rfl rfl rfl (fun x4658 e4658 q4658 => ?_) (fun x4658 e4658 q4658 => ?_)
        · cases e4658
          have c4658 := of_decide_eq_true q4658
          refine zSp0 (pc' := 150) (st' := .int (0) :: _) vr_156_149 rfl rfl ?_
          refine zS2 (f := fun x y => .int (x ||| y)) vr_156_150 rfl rfl (fun x4660 y4660 e4660 f4660 => ?_)
          cases e4660
          cases f4660
          refine zSistore (m := 2) (k := 8) vr_156_151 rfl rfl (fun x4661 e4661 => ?_)
          cases e4661
          show zL zrx zi _ 156 153 [(8, _), (9, _), (0, _), (1, _), (2, _), (3, _), (4, _), (5, _), (6, _), (7, _)] [] _ _ _
          refine zSiinc vr_156_153 rfl rfl (fun x4662 e4662 => ?_)
          cases e4662
          show zL zrx zi _ 156 156 [(9, _), (8, _), (0, _), (1, _), (2, _), (3, _), (4, _), (5, _), (6, _), (7, _)] [] _ _ _
          refine zSgo (t := 116) vr_156_156 rfl rfl ?_
          rw [ofNat_succ]
          refine zL_pm _ _ _ [(9, _), (8, _), (0, _), (1, _), (2, _), (3, _), (4, _), (5, _), (6, _), (7, _)] _ _ _ _ _ ⟨(List.forall_mem_cons.mpr ⟨List.mem_cons_self, (List.forall_mem_cons.mpr ⟨(List.mem_cons_of_mem _ List.mem_cons_self), (List.forall_mem_cons.mpr ⟨(List.mem_cons_of_mem _ (List.mem_cons_of_mem _ List.mem_cons_self)), (List.forall_mem_cons.mpr ⟨(List.mem_cons_of_mem _ (List.mem_cons_of_mem _ (List.mem_cons_of_mem _ List.mem_cons_self))), (List.forall_mem_cons.mpr ⟨(List.mem_cons_of_mem _ (List.mem_cons_of_mem _ (List.mem_cons_of_mem _ (List.mem_cons_of_mem _ List.mem_cons_self)))), (List.forall_mem_cons.mpr ⟨(List.mem_cons_of_mem _ (List.mem_cons_of_mem _ (List.mem_cons_of_mem _ (List.mem_cons_of_mem _ (List.mem_cons_of_mem _ List.mem_cons_self))))), (List.forall_mem_cons.mpr ⟨(List.mem_cons_of_mem _ (List.mem_cons_of_mem _ (List.mem_cons_of_mem _ (List.mem_cons_of_mem _ (List.mem_cons_of_mem _ (List.mem_cons_of_mem _ List.mem_cons_self)))))), (List.forall_mem_cons.mpr ⟨(List.mem_cons_of_mem _ (List.mem_cons_of_mem _ (List.mem_cons_of_mem _ (List.mem_cons_of_mem _ (List.mem_cons_of_mem _ (List.mem_cons_of_mem _ (List.mem_cons_of_mem _ List.mem_cons_self))))))), (List.forall_mem_cons.mpr ⟨(List.mem_cons_of_mem _ (List.mem_cons_of_mem _ (List.mem_cons_of_mem _ (List.mem_cons_of_mem _ (List.mem_cons_of_mem _ (List.mem_cons_of_mem _ (List.mem_cons_of_mem _ (List.mem_cons_of_mem _ List.mem_cons_self)))))))), (List.forall_mem_cons.mpr ⟨(List.mem_cons_of_mem _ (List.mem_cons_of_mem _ (List.mem_cons_of_mem _ (List.mem_cons_of_mem _ (List.mem_cons_of_mem _ (List.mem_cons_of_mem _ (List.mem_cons_of_mem _ (List.mem_cons_of_mem _ (List.mem_cons_of_mem _ List.mem_cons_self))))))))), (fun _ h => absurd h List.not_mem_nil)⟩)⟩)⟩)⟩)⟩)⟩)⟩)⟩)⟩)⟩), show ([9, 8, 0, 1, 2, 3, 4, 5, 6, 7] : List Nat).Nodup by decide⟩ (C_mdL hS0 ip W hW HB n (k + 1) _ _ (by have y := c4653; rw [i32_le, kk.2, z6] at y; omega) ?_)
          first
            | exact ((rfF_n (hs_n c4658)).trans hD).trans (by simp)
            | exact (rfF_y (hs_y c4658)).trans (by rw [hD, hW, ← kk.1, iv_of g4573])
        · cases e4658
          have c4658 := ndc q4658
          refine zSp0 (pc' := 136) (st' := .int (1) :: _) vr_156_135 rfl rfl ?_
          refine zSaload (m := 1) (k := 0) vr_156_136 rfl rfl rfl ?_
          refine zLget vr_156_137 rfl (fun p4666 w4666 e4666 t4666 g4666 => ?_)
          cases e4666
          first | (rw [(st_213_5 hS0)] at g4666; cases g4666) | (rw [(st_mrow hS0 hp)] at g4666; cases g4666) | skip
          refine zSiload (m := 1) (k := 1) vr_156_140 rfl rfl rfl (fun x4667 e4667 => ?_)
          cases e4667
          refine zLaald vr_156_141 rfl (fun p4668 x4668 w4668 e4668 f4668 c4668 t4668 g4668 => ?_)
          cases e4668
          cases f4668
          first | (rw [(st_213_5 hS0)] at g4668; cases g4668) | (rw [(st_mrow hS0 hp)] at g4668; cases g4668) | skip
          refine zSiload (m := 2) (k := 9) vr_156_142 rfl rfl rfl (fun x4669 e4669 => ?_)
          cases e4669
          refine zLiald vr_156_144 rfl (fun p4670 x4670 w4670 e4670 f4670 c4670 t4670 g4670 => ?_)
          cases e4670
          cases f4670
          first | (rw [(st_213_5 hS0)] at g4670; cases g4670) | (rw [(st_mrow hS0 hp)] at g4670; cases g4670) | skip
          refine zS2 (f := fun x y => .int (x <<< (y &&& 31))) vr_156_145 rfl rfl (fun x4671 y4671 e4671 f4671 => ?_)
          cases e4671
          cases f4671
          refine zSgo (t := 150) vr_156_146 rfl rfl ?_
          refine zS2 (f := fun x y => .int (x ||| y)) vr_156_150 rfl rfl (fun x4673 y4673 e4673 f4673 => ?_)
          cases e4673
          cases f4673
          refine zSistore (m := 2) (k := 8) vr_156_151 rfl rfl (fun x4674 e4674 => ?_)
          cases e4674
          show zL zrx zi _ 156 153 [(8, _), (9, _), (0, _), (1, _), (2, _), (3, _), (4, _), (5, _), (6, _), (7, _)] [] _ _ _
          refine zSiinc vr_156_153 rfl rfl (fun x4675 e4675 => ?_)
          cases e4675
          show zL zrx zi _ 156 156 [(9, _), (8, _), (0, _), (1, _), (2, _), (3, _), (4, _), (5, _), (6, _), (7, _)] [] _ _ _
          refine zSgo (t := 116) vr_156_156 rfl rfl ?_
          rw [ofNat_succ]
          refine zL_pm _ _ _ [(9, _), (8, _), (0, _), (1, _), (2, _), (3, _), (4, _), (5, _), (6, _), (7, _)] _ _ _ _ _ ⟨(List.forall_mem_cons.mpr ⟨List.mem_cons_self, (List.forall_mem_cons.mpr ⟨(List.mem_cons_of_mem _ List.mem_cons_self), (List.forall_mem_cons.mpr ⟨(List.mem_cons_of_mem _ (List.mem_cons_of_mem _ List.mem_cons_self)), (List.forall_mem_cons.mpr ⟨(List.mem_cons_of_mem _ (List.mem_cons_of_mem _ (List.mem_cons_of_mem _ List.mem_cons_self))), (List.forall_mem_cons.mpr ⟨(List.mem_cons_of_mem _ (List.mem_cons_of_mem _ (List.mem_cons_of_mem _ (List.mem_cons_of_mem _ List.mem_cons_self)))), (List.forall_mem_cons.mpr ⟨(List.mem_cons_of_mem _ (List.mem_cons_of_mem _ (List.mem_cons_of_mem _ (List.mem_cons_of_mem _ (List.mem_cons_of_mem _ List.mem_cons_self))))), (List.forall_mem_cons.mpr ⟨(List.mem_cons_of_mem _ (List.mem_cons_of_mem _ (List.mem_cons_of_mem _ (List.mem_cons_of_mem _ (List.mem_cons_of_mem _ (List.mem_cons_of_mem _ List.mem_cons_self)))))), (List.forall_mem_cons.mpr ⟨(List.mem_cons_of_mem _ (List.mem_cons_of_mem _ (List.mem_cons_of_mem _ (List.mem_cons_of_mem _ (List.mem_cons_of_mem _ (List.mem_cons_of_mem _ (List.mem_cons_of_mem _ List.mem_cons_self))))))), (List.forall_mem_cons.mpr ⟨(List.mem_cons_of_mem _ (List.mem_cons_of_mem _ (List.mem_cons_of_mem _ (List.mem_cons_of_mem _ (List.mem_cons_of_mem _ (List.mem_cons_of_mem _ (List.mem_cons_of_mem _ (List.mem_cons_of_mem _ List.mem_cons_self)))))))), (List.forall_mem_cons.mpr ⟨(List.mem_cons_of_mem _ (List.mem_cons_of_mem _ (List.mem_cons_of_mem _ (List.mem_cons_of_mem _ (List.mem_cons_of_mem _ (List.mem_cons_of_mem _ (List.mem_cons_of_mem _ (List.mem_cons_of_mem _ (List.mem_cons_of_mem _ List.mem_cons_self))))))))), (fun _ h => absurd h List.not_mem_nil)⟩)⟩)⟩)⟩)⟩)⟩)⟩)⟩)⟩)⟩), show ([9, 8, 0, 1, 2, 3, 4, 5, 6, 7] : List Nat).Nodup by decide⟩ (C_mdL hS0 ip W hW HB n (k + 1) _ _ (by have y := c4653; rw [i32_le, kk.2, z6] at y; omega) ?_)
          first
            | exact ((rfF_n (hs_n c4658)).trans hD).trans (by simp)
            | exact (rfF_y (hs_y c4658)).trans (by rw [hD, hW, ← kk.1, iv_of g4670])
      · obtain ⟨-, z⟩ := q4657
        cases z
set_option maxRecDepth 20000 in
theorem C_mdispute (n : Nat) (p q r m f a g : Int32) (h : List zC) (u : Nat) {cnt day : Int32} {lc l : Nat} (hS : Stc h) (hs : gF h 224 2 = some (.int cnt)) (hL : gF h 224 1 = some (.ref lc)) (hn : gN h lc = some l) (hl2 : l < 2147483648) (tE : ∃ t, gT h lc = some t ∧ 93 ≤ t) (h24 : cnt.toInt ≤ 24) (h213 : ¬ lc = 213) (hd : gF h 213 1 = some (.int day)) : zL zrx zi n 156 0 [(0, .ref 213), (1, .int p), (2, .int q), (3, .int r), (4, .int m), (5, .int f), (6, .int a), (7, .int g)] [] h u (Q_mdispute lc cnt day p q r m f a g h) := by
  refine zSaload (m := 1) (k := 0) vr_156_0 rfl rfl rfl ?_
  refine zSp0 (pc' := 2) (st' := .int (0) :: _) vr_156_1 rfl rfl ?_
  refine zLput vr_156_2 rfl (fun p4679 k4679 e4679 t4679 g4679 => ?_)
  cases e4679
  have t0 := g4679
  have hS0 := hS.thr t0
  have f0 : ∀ q k, ¬ (q = 213 ∧ k = 0) → gF k4679 q k = gF h q k := fun q k z => by rw [t0.2.1, if_neg z]
  have hs0 := (f0 224 2 (by omega)).trans hs
  have hd0 := (f0 213 1 (by omega)).trans hd
  refine zSiload (m := 1) (k := 1) vr_156_5 rfl rfl rfl (fun x4680 e4680 => ?_)
  cases e4680
  refine zSp0 (pc' := 7) (st' := .int (0) :: _) vr_156_6 rfl rfl ?_
  refine zSp0 (pc' := 8) (st' := .int (5) :: _) vr_156_7 rfl rfl ?_
  refine zScall vr_156_8 rfl rfl rfl (fun m4683 _ => C_in _ _ _ _ _ _) (fun v4683 h4683 u4683 q4683 => ?_) (fun E4683 h4683 u4683 q4683 => ?_)
  · obtain ⟨eh4683, z4683⟩ := q4683
    replace eh4683 := eh4683.symm
    subst eh4683
    cases z4683
    show zL zrx zi _ 156 11 [(0, _), (1, _), (2, _), (3, _), (4, _), (5, _), (6, _), (7, _)] [_] _ _ _
    refine zSb1 (f := fun x => decide (x = 0)) (off := 31) (t := 42) vr_156_11 rfl rfl rfl (fun x4684 e4684 q4684 => ?_) (fun x4684 e4684 q4684 => ?_)
    · cases e4684
      have c4684 := of_decide_eq_true q4684
      refine zSaload (m := 1) (k := 0) vr_156_42 rfl rfl rfl ?_
      refine zSp0 (pc' := 44) (st' := .int (1) :: _) vr_156_43 rfl rfl ?_
      refine zScall vr_156_44 rfl rfl rfl (fun m4687 _ => C_no _ _ _ _ _) (fun v4687 h4687 u4687 q4687 => ?_) (fun E4687 h4687 u4687 q4687 => ?_)
      · obtain ⟨gn4687, z4687⟩ := q4687
        cases z4687
        show zL zrx zi _ 156 47 [(0, _), (1, _), (2, _), (3, _), (4, _), (5, _), (6, _), (7, _)] [_] _ _ _
        refine zLiret vr_156_47 rfl (fun x4688 e4688 => ?_)
        cases e4688
        first
          | exact ⟨_, _, rfl, t0, Or.inr ⟨fun z => in_n (x := p) (hi := 5) (m := 6) (by decide) c4684 z.1.1, _, by decide, gn4687⟩⟩
          | exact ⟨_, _, rfl, t0, Or.inr ⟨fun z => in_n (x := q) (hi := 5) (m := 6) (by decide) c4611 z.1.2.1, _, by decide, gn4687⟩⟩
          | exact ⟨_, _, rfl, t0, Or.inr ⟨fun z => in_n (x := r) (hi := 3) (m := 4) (by decide) c4616 z.1.2.2.1, _, by decide, gn4687⟩⟩
          | exact ⟨_, _, rfl, t0, Or.inr ⟨fun z => in_n (x := m) (hi := 3) (m := 4) (by decide) (Decidable.not_not.mp c4497) z.1.2.2.2, _, by decide, gn4687⟩⟩
      · obtain ⟨-, z⟩ := q4687
        cases z
    · cases e4684
      have c4684 := ndc q4684
      refine zSiload (m := 1) (k := 2) vr_156_14 rfl rfl rfl (fun x4689 e4689 => ?_)
      cases e4689
      refine zSp0 (pc' := 16) (st' := .int (0) :: _) vr_156_15 rfl rfl ?_
      refine zSp0 (pc' := 17) (st' := .int (5) :: _) vr_156_16 rfl rfl ?_
      refine zScall vr_156_17 rfl rfl rfl (fun m4692 _ => C_in _ _ _ _ _ _) (fun v4692 h4692 u4692 q4692 => ?_) (fun E4692 h4692 u4692 q4692 => ?_)
      · obtain ⟨eh4692, z4692⟩ := q4692
        replace eh4692 := eh4692.symm
        subst eh4692
        cases z4692
        show zL zrx zi _ 156 20 [(0, _), (1, _), (2, _), (3, _), (4, _), (5, _), (6, _), (7, _)] [_] _ _ _
        refine zSb1 (f := fun x => decide (x = 0)) (off := 22) (t := 42) vr_156_20 rfl rfl rfl (fun x4693 e4693 q4693 => ?_) (fun x4693 e4693 q4693 => ?_)
        · cases e4693
          have c4693 := of_decide_eq_true q4693
          refine zSaload (m := 1) (k := 0) vr_156_42 rfl rfl rfl ?_
          refine zSp0 (pc' := 44) (st' := .int (1) :: _) vr_156_43 rfl rfl ?_
          refine zScall vr_156_44 rfl rfl rfl (fun m4696 _ => C_no _ _ _ _ _) (fun v4696 h4696 u4696 q4696 => ?_) (fun E4696 h4696 u4696 q4696 => ?_)
          · obtain ⟨gn4696, z4696⟩ := q4696
            cases z4696
            show zL zrx zi _ 156 47 [(0, _), (1, _), (2, _), (3, _), (4, _), (5, _), (6, _), (7, _)] [_] _ _ _
            refine zLiret vr_156_47 rfl (fun x4697 e4697 => ?_)
            cases e4697
            first
              | exact ⟨_, _, rfl, t0, Or.inr ⟨fun z => in_n (x := p) (hi := 5) (m := 6) (by decide) c4684 z.1.1, _, by decide, gn4696⟩⟩
              | exact ⟨_, _, rfl, t0, Or.inr ⟨fun z => in_n (x := q) (hi := 5) (m := 6) (by decide) c4693 z.1.2.1, _, by decide, gn4696⟩⟩
              | exact ⟨_, _, rfl, t0, Or.inr ⟨fun z => in_n (x := r) (hi := 3) (m := 4) (by decide) c4616 z.1.2.2.1, _, by decide, gn4696⟩⟩
              | exact ⟨_, _, rfl, t0, Or.inr ⟨fun z => in_n (x := m) (hi := 3) (m := 4) (by decide) (Decidable.not_not.mp c4497) z.1.2.2.2, _, by decide, gn4696⟩⟩
          · obtain ⟨-, z⟩ := q4696
            cases z
        · cases e4693
          have c4693 := ndc q4693
          refine zSiload (m := 1) (k := 3) vr_156_23 rfl rfl rfl (fun x4698 e4698 => ?_)
          cases e4698
          refine zSp0 (pc' := 25) (st' := .int (0) :: _) vr_156_24 rfl rfl ?_
          refine zSp0 (pc' := 26) (st' := .int (3) :: _) vr_156_25 rfl rfl ?_
          refine zScall vr_156_26 rfl rfl rfl (fun m4701 _ => C_in _ _ _ _ _ _) (fun v4701 h4701 u4701 q4701 => ?_) (fun E4701 h4701 u4701 q4701 => ?_)
          · obtain ⟨eh4701, z4701⟩ := q4701
            replace eh4701 := eh4701.symm
            subst eh4701
            cases z4701
            show zL zrx zi _ 156 29 [(0, _), (1, _), (2, _), (3, _), (4, _), (5, _), (6, _), (7, _)] [_] _ _ _
            refine zSb1 (f := fun x => decide (x = 0)) (off := 13) (t := 42) vr_156_29 rfl rfl rfl (fun x4702 e4702 q4702 => ?_) (fun x4702 e4702 q4702 => ?_)
            · cases e4702
              have c4702 := of_decide_eq_true q4702
              refine zSaload (m := 1) (k := 0) vr_156_42 rfl rfl rfl ?_
              refine zSp0 (pc' := 44) (st' := .int (1) :: _) vr_156_43 rfl rfl ?_
              refine zScall vr_156_44 rfl rfl rfl (fun m4705 _ => C_no _ _ _ _ _) (fun v4705 h4705 u4705 q4705 => ?_) (fun E4705 h4705 u4705 q4705 => ?_)
              · obtain ⟨gn4705, z4705⟩ := q4705
                cases z4705
                show zL zrx zi _ 156 47 [(0, _), (1, _), (2, _), (3, _), (4, _), (5, _), (6, _), (7, _)] [_] _ _ _
                refine zLiret vr_156_47 rfl (fun x4706 e4706 => ?_)
                cases e4706
                first
                  | exact ⟨_, _, rfl, t0, Or.inr ⟨fun z => in_n (x := p) (hi := 5) (m := 6) (by decide) c4684 z.1.1, _, by decide, gn4705⟩⟩
                  | exact ⟨_, _, rfl, t0, Or.inr ⟨fun z => in_n (x := q) (hi := 5) (m := 6) (by decide) c4693 z.1.2.1, _, by decide, gn4705⟩⟩
                  | exact ⟨_, _, rfl, t0, Or.inr ⟨fun z => in_n (x := r) (hi := 3) (m := 4) (by decide) c4702 z.1.2.2.1, _, by decide, gn4705⟩⟩
                  | exact ⟨_, _, rfl, t0, Or.inr ⟨fun z => in_n (x := m) (hi := 3) (m := 4) (by decide) (Decidable.not_not.mp c4497) z.1.2.2.2, _, by decide, gn4705⟩⟩
              · obtain ⟨-, z⟩ := q4705
                cases z
            · cases e4702
              have c4702 := ndc q4702
              refine zSiload (m := 2) (k := 4) vr_156_32 rfl rfl rfl (fun x4707 e4707 => ?_)
              cases e4707
              refine zSp0 (pc' := 35) (st' := .int (0) :: _) vr_156_34 rfl rfl ?_
              refine zSp0 (pc' := 36) (st' := .int (3) :: _) vr_156_35 rfl rfl ?_
              refine zScall vr_156_36 rfl rfl rfl (fun m4710 _ => C_in _ _ _ _ _ _) (fun v4710 h4710 u4710 q4710 => ?_) (fun E4710 h4710 u4710 q4710 => ?_)
              · obtain ⟨eh4710, z4710⟩ := q4710
                replace eh4710 := eh4710.symm
                subst eh4710
                cases z4710
                show zL zrx zi _ 156 39 [(0, _), (1, _), (2, _), (3, _), (4, _), (5, _), (6, _), (7, _)] [_] _ _ _
                refine zSb1 (f := fun x => decide (¬ x = 0)) (off := 9) (t := 48) vr_156_39 rfl rfl rfl (fun x4711 e4711 q4711 => ?_) (fun x4711 e4711 q4711 => ?_)
                · cases e4711
                  have c4711 := of_decide_eq_true q4711
                  refine zSiload (m := 2) (k := 5) vr_156_48 rfl rfl rfl (fun x4712 e4712 => ?_)
                  cases e4712
                  refine zSp0 (pc' := 51) (st' := .int (0) :: _) vr_156_50 rfl rfl ?_
                  refine zSp0 (pc' := 53) (st' := .int (63) :: _) vr_156_51 rfl rfl ?_
                  refine zScall vr_156_53 rfl rfl rfl (fun m4715 _ => C_in _ _ _ _ _ _) (fun v4715 h4715 u4715 q4715 => ?_) (fun E4715 h4715 u4715 q4715 => ?_)
                  · obtain ⟨eh4715, z4715⟩ := q4715
                    replace eh4715 := eh4715.symm
                    subst eh4715
                    cases z4715
                    show zL zrx zi _ 156 56 [(0, _), (1, _), (2, _), (3, _), (4, _), (5, _), (6, _), (7, _)] [_] _ _ _
                    refine zSb1 (f := fun x => decide (x = 0)) (off := 28) (t := 84) vr_156_56 rfl rfl rfl (fun x4716 e4716 q4716 => ?_) (fun x4716 e4716 q4716 => ?_)
                    · cases e4716
                      have c4716 := of_decide_eq_true q4716
                      refine zSaload (m := 1) (k := 0) vr_156_84 rfl rfl rfl ?_
                      refine zSp0 (pc' := 86) (st' := .int (2) :: _) vr_156_85 rfl rfl ?_
                      refine zScall vr_156_86 rfl rfl rfl (fun m4719 _ => C_no _ _ _ _ _) (fun v4719 h4719 u4719 q4719 => ?_) (fun E4719 h4719 u4719 q4719 => ?_)
                      · obtain ⟨gn4719, z4719⟩ := q4719
                        cases z4719
                        show zL zrx zi _ 156 89 [(0, _), (1, _), (2, _), (3, _), (4, _), (5, _), (6, _), (7, _)] [_] _ _ _
                        refine zLiret vr_156_89 rfl (fun x4720 e4720 => ?_)
                        cases e4720
                        first
                          | exact ⟨_, _, rfl, t0, Or.inr ⟨fun z => inB_n c4716 z.2.1.1, _, by decide, gn4719⟩⟩
                          | exact ⟨_, _, rfl, t0, Or.inr ⟨fun z => inB_n c4535 z.2.1.2.1, _, by decide, gn4719⟩⟩
                          | exact ⟨_, _, rfl, t0, Or.inr ⟨fun z => inB_n (Decidable.not_not.mp c4542) z.2.1.2.2, _, by decide, gn4719⟩⟩
                      · obtain ⟨-, z⟩ := q4719
                        cases z
                    · cases e4716
                      have c4716 := ndc q4716
                      refine zSiload (m := 2) (k := 6) vr_156_59 rfl rfl rfl (fun x4721 e4721 => ?_)
                      cases e4721
                      refine zSp0 (pc' := 62) (st' := .int (0) :: _) vr_156_61 rfl rfl ?_
                      refine zSp0 (pc' := 65) (st' := .int (999) :: _) vr_156_62 rfl rfl ?_
                      refine zScall vr_156_65 rfl rfl rfl (fun m4724 _ => C_in _ _ _ _ _ _) (fun v4724 h4724 u4724 q4724 => ?_) (fun E4724 h4724 u4724 q4724 => ?_)
                      · obtain ⟨eh4724, z4724⟩ := q4724
                        replace eh4724 := eh4724.symm
                        subst eh4724
                        cases z4724
                        show zL zrx zi _ 156 68 [(0, _), (1, _), (2, _), (3, _), (4, _), (5, _), (6, _), (7, _)] [_] _ _ _
                        refine zSb1 (f := fun x => decide (x = 0)) (off := 16) (t := 84) vr_156_68 rfl rfl rfl (fun x4725 e4725 q4725 => ?_) (fun x4725 e4725 q4725 => ?_)
                        · cases e4725
                          have c4725 := of_decide_eq_true q4725
                          refine zSaload (m := 1) (k := 0) vr_156_84 rfl rfl rfl ?_
                          refine zSp0 (pc' := 86) (st' := .int (2) :: _) vr_156_85 rfl rfl ?_
                          refine zScall vr_156_86 rfl rfl rfl (fun m4728 _ => C_no _ _ _ _ _) (fun v4728 h4728 u4728 q4728 => ?_) (fun E4728 h4728 u4728 q4728 => ?_)
                          · obtain ⟨gn4728, z4728⟩ := q4728
                            cases z4728
                            show zL zrx zi _ 156 89 [(0, _), (1, _), (2, _), (3, _), (4, _), (5, _), (6, _), (7, _)] [_] _ _ _
                            refine zLiret vr_156_89 rfl (fun x4729 e4729 => ?_)
                            cases e4729
                            first
                              | exact ⟨_, _, rfl, t0, Or.inr ⟨fun z => inB_n c4716 z.2.1.1, _, by decide, gn4728⟩⟩
                              | exact ⟨_, _, rfl, t0, Or.inr ⟨fun z => inB_n c4725 z.2.1.2.1, _, by decide, gn4728⟩⟩
                              | exact ⟨_, _, rfl, t0, Or.inr ⟨fun z => inB_n (Decidable.not_not.mp c4542) z.2.1.2.2, _, by decide, gn4728⟩⟩
                          · obtain ⟨-, z⟩ := q4728
                            cases z
                        · cases e4725
                          have c4725 := ndc q4725
                          refine zSiload (m := 2) (k := 7) vr_156_71 rfl rfl rfl (fun x4730 e4730 => ?_)
                          cases e4730
                          refine zSp0 (pc' := 74) (st' := .int (0) :: _) vr_156_73 rfl rfl ?_
                          refine zSaload (m := 1) (k := 0) vr_156_74 rfl rfl rfl ?_
                          refine zLget vr_156_75 rfl (fun p4733 w4733 e4733 t4733 g4733 => ?_)
                          cases e4733
                          first | (rw [hd0] at g4733; cases g4733) | (rw [(st_213_8 hS0)] at g4733; cases g4733) | skip
                          refine zScall vr_156_78 rfl rfl rfl (fun m4734 _ => C_in _ _ _ _ _ _) (fun v4734 h4734 u4734 q4734 => ?_) (fun E4734 h4734 u4734 q4734 => ?_)
                          · obtain ⟨eh4734, z4734⟩ := q4734
                            replace eh4734 := eh4734.symm
                            subst eh4734
                            cases z4734
                            show zL zrx zi _ 156 81 [(0, _), (1, _), (2, _), (3, _), (4, _), (5, _), (6, _), (7, _)] [_] _ _ _
                            refine zSb1 (f := fun x => decide (¬ x = 0)) (off := 9) (t := 90) vr_156_81 rfl rfl rfl (fun x4735 e4735 q4735 => ?_) (fun x4735 e4735 q4735 => ?_)
                            · cases e4735
                              have c4735 := of_decide_eq_true q4735
                              refine zSaload (m := 1) (k := 0) vr_156_90 rfl rfl rfl ?_
                              refine zLget vr_156_91 rfl (fun p4737 w4737 e4737 t4737 g4737 => ?_)
                              cases e4737
                              first | (rw [hd0] at g4737; cases g4737) | (rw [(st_213_8 hS0)] at g4737; cases g4737) | skip
                              refine zScall vr_156_94 rfl rfl rfl (fun m4738 _ => C_lsize _ _ _ _ hs0) (fun v4738 h4738 u4738 q4738 => ?_) (fun E4738 h4738 u4738 q4738 => ?_)
                              · obtain ⟨eh4738, z4738⟩ := q4738
                                replace eh4738 := eh4738.symm
                                subst eh4738
                                cases z4738
                                show zL zrx zi _ 156 99 [(0, _), (1, _), (2, _), (3, _), (4, _), (5, _), (6, _), (7, _)] [_] _ _ _
                                refine zSp0 (pc' := 101) (st' := .int (24) :: _) vr_156_99 rfl rfl ?_
                                refine zSb2 (f := fun x y => decide (¬ x = y)) (off := 9) (t := 110) vr_156_101 rfl rfl rfl (fun x4740 y4740 e4740 f4740 q4740 => ?_) (fun x4740 y4740 e4740 f4740 q4740 => ?_)
                                · cases e4740
                                  cases f4740
                                  have c4740 := of_decide_eq_true q4740
                                  refine zSp0 (pc' := 111) (st' := .int (0) :: _) vr_156_110 rfl rfl ?_
                                  refine zSistore (m := 2) (k := 8) vr_156_111 rfl rfl (fun x4742 e4742 => ?_)
                                  cases e4742
                                  show zL zrx zi _ 156 113 [(8, _), (0, _), (1, _), (2, _), (3, _), (4, _), (5, _), (6, _), (7, _)] [] _ _ _
                                  refine zSp0 (pc' := 114) (st' := .int (0) :: _) vr_156_113 rfl rfl ?_
                                  refine zSistore (m := 2) (k := 9) vr_156_114 rfl rfl (fun x4744 e4744 => ?_)
                                  cases e4744
                                  show zL zrx zi _ 156 116 [(9, _), (8, _), (0, _), (1, _), (2, _), (3, _), (4, _), (5, _), (6, _), (7, _)] [] _ _ _
                                  have c24 : cnt.toInt < 24 := by
                                    have y := c4740
                                    have z24 : (24 : Int32).toInt = 24 := rfl
                                    have : ¬ cnt.toInt = 24 := fun z => y (Int32.toInt_inj.mp (by omega))
                                    omega
                                  have ip := in_y (x := p) (hi := 5) (m := 6) (by decide) c4684
                                  have ok : okD p q r m f a g day cnt := ⟨⟨ip, in_y (x := q) (hi := 5) (m := 6) (by decide) c4693, in_y (x := r) (hi := 3) (m := 4) (by decide) c4702, in_y (x := m) (hi := 3) (m := 4) (by decide) c4711⟩, ⟨(inB_y c4716), (inB_y c4725), (inB_y c4735)⟩, c24⟩
                                  exact zL_pm _ _ _ [(9, _), (8, _), (0, _), (1, _), (2, _), (3, _), (4, _), (5, _), (6, _), (7, _)] _ _ _ _ _ ⟨(List.forall_mem_cons.mpr ⟨List.mem_cons_self, (List.forall_mem_cons.mpr ⟨(List.mem_cons_of_mem _ List.mem_cons_self), (List.forall_mem_cons.mpr ⟨(List.mem_cons_of_mem _ (List.mem_cons_of_mem _ List.mem_cons_self)), (List.forall_mem_cons.mpr ⟨(List.mem_cons_of_mem _ (List.mem_cons_of_mem _ (List.mem_cons_of_mem _ List.mem_cons_self))), (List.forall_mem_cons.mpr ⟨(List.mem_cons_of_mem _ (List.mem_cons_of_mem _ (List.mem_cons_of_mem _ (List.mem_cons_of_mem _ List.mem_cons_self)))), (List.forall_mem_cons.mpr ⟨(List.mem_cons_of_mem _ (List.mem_cons_of_mem _ (List.mem_cons_of_mem _ (List.mem_cons_of_mem _ (List.mem_cons_of_mem _ List.mem_cons_self))))), (List.forall_mem_cons.mpr ⟨(List.mem_cons_of_mem _ (List.mem_cons_of_mem _ (List.mem_cons_of_mem _ (List.mem_cons_of_mem _ (List.mem_cons_of_mem _ (List.mem_cons_of_mem _ List.mem_cons_self)))))), (List.forall_mem_cons.mpr ⟨(List.mem_cons_of_mem _ (List.mem_cons_of_mem _ (List.mem_cons_of_mem _ (List.mem_cons_of_mem _ (List.mem_cons_of_mem _ (List.mem_cons_of_mem _ (List.mem_cons_of_mem _ List.mem_cons_self))))))), (List.forall_mem_cons.mpr ⟨(List.mem_cons_of_mem _ (List.mem_cons_of_mem _ (List.mem_cons_of_mem _ (List.mem_cons_of_mem _ (List.mem_cons_of_mem _ (List.mem_cons_of_mem _ (List.mem_cons_of_mem _ (List.mem_cons_of_mem _ List.mem_cons_self)))))))), (List.forall_mem_cons.mpr ⟨(List.mem_cons_of_mem _ (List.mem_cons_of_mem _ (List.mem_cons_of_mem _ (List.mem_cons_of_mem _ (List.mem_cons_of_mem _ (List.mem_cons_of_mem _ (List.mem_cons_of_mem _ (List.mem_cons_of_mem _ (List.mem_cons_of_mem _ List.mem_cons_self))))))))), (fun _ h => absurd h List.not_mem_nil)⟩)⟩)⟩)⟩)⟩)⟩)⟩)⟩)⟩)⟩), show ([9, 8, 0, 1, 2, 3, 4, 5, 6, 7] : List Nat).Nodup by decide⟩ (C_mdL hS0 ip (fun k => iv h (216 + p.toNatClampNeg) k) (fun k => iv_eq (f0 _ _ (by omega)).symm) (fun n u => C_mdB hS hs hL hn hl2 tE h24 h213 hd t0 ok n u) _ 0 0 _ (by omega) rfl)
                                · cases e4740
                                  cases f4740
                                  have c4740 := ndc q4740
                                  refine zSaload (m := 1) (k := 0) vr_156_104 rfl rfl rfl ?_
                                  refine zSp0 (pc' := 106) (st' := .int (3) :: _) vr_156_105 rfl rfl ?_
                                  refine zScall vr_156_106 rfl rfl rfl (fun m4747 _ => C_no _ _ _ _ _) (fun v4747 h4747 u4747 q4747 => ?_) (fun E4747 h4747 u4747 q4747 => ?_)
                                  · obtain ⟨gn4747, z4747⟩ := q4747
                                    cases z4747
                                    show zL zrx zi _ 156 109 [(0, _), (1, _), (2, _), (3, _), (4, _), (5, _), (6, _), (7, _)] [_] _ _ _
                                    refine zLiret vr_156_109 rfl (fun x4748 e4748 => ?_)
                                    cases e4748
                                    exact ⟨_, _, rfl, t0, Or.inr ⟨fun z => absurd z.2.2 (by rw [show cnt = 24 from Decidable.not_not.mp c4740]; decide), _, by decide, gn4747⟩⟩
                                  · obtain ⟨-, z⟩ := q4747
                                    cases z
                              · obtain ⟨-, z⟩ := q4738
                                cases z
                            · cases e4735
                              have c4735 := ndc q4735
                              refine zSaload (m := 1) (k := 0) vr_156_84 rfl rfl rfl ?_
                              refine zSp0 (pc' := 86) (st' := .int (2) :: _) vr_156_85 rfl rfl ?_
                              refine zScall vr_156_86 rfl rfl rfl (fun m4751 _ => C_no _ _ _ _ _) (fun v4751 h4751 u4751 q4751 => ?_) (fun E4751 h4751 u4751 q4751 => ?_)
                              · obtain ⟨gn4751, z4751⟩ := q4751
                                cases z4751
                                show zL zrx zi _ 156 89 [(0, _), (1, _), (2, _), (3, _), (4, _), (5, _), (6, _), (7, _)] [_] _ _ _
                                refine zLiret vr_156_89 rfl (fun x4752 e4752 => ?_)
                                cases e4752
                                first
                                  | exact ⟨_, _, rfl, t0, Or.inr ⟨fun z => inB_n c4716 z.2.1.1, _, by decide, gn4751⟩⟩
                                  | exact ⟨_, _, rfl, t0, Or.inr ⟨fun z => inB_n c4725 z.2.1.2.1, _, by decide, gn4751⟩⟩
                                  | exact ⟨_, _, rfl, t0, Or.inr ⟨fun z => inB_n (Decidable.not_not.mp c4735) z.2.1.2.2, _, by decide, gn4751⟩⟩
                              · obtain ⟨-, z⟩ := q4751
                                cases z
                          · obtain ⟨-, z⟩ := q4734
                            cases z
                      · obtain ⟨-, z⟩ := q4724
                        cases z
                  · obtain ⟨-, z⟩ := q4715
                    cases z
                · cases e4711
                  have c4711 := ndc q4711
                  refine zSaload (m := 1) (k := 0) vr_156_42 rfl rfl rfl ?_
                  refine zSp0 (pc' := 44) (st' := .int (1) :: _) vr_156_43 rfl rfl ?_
                  refine zScall vr_156_44 rfl rfl rfl (fun m4755 _ => C_no _ _ _ _ _) (fun v4755 h4755 u4755 q4755 => ?_) (fun E4755 h4755 u4755 q4755 => ?_)
                  · obtain ⟨gn4755, z4755⟩ := q4755
                    cases z4755
                    show zL zrx zi _ 156 47 [(0, _), (1, _), (2, _), (3, _), (4, _), (5, _), (6, _), (7, _)] [_] _ _ _
                    refine zLiret vr_156_47 rfl (fun x4756 e4756 => ?_)
                    cases e4756
                    first
                      | exact ⟨_, _, rfl, t0, Or.inr ⟨fun z => in_n (x := p) (hi := 5) (m := 6) (by decide) c4684 z.1.1, _, by decide, gn4755⟩⟩
                      | exact ⟨_, _, rfl, t0, Or.inr ⟨fun z => in_n (x := q) (hi := 5) (m := 6) (by decide) c4693 z.1.2.1, _, by decide, gn4755⟩⟩
                      | exact ⟨_, _, rfl, t0, Or.inr ⟨fun z => in_n (x := r) (hi := 3) (m := 4) (by decide) c4702 z.1.2.2.1, _, by decide, gn4755⟩⟩
                      | exact ⟨_, _, rfl, t0, Or.inr ⟨fun z => in_n (x := m) (hi := 3) (m := 4) (by decide) (Decidable.not_not.mp c4711) z.1.2.2.2, _, by decide, gn4755⟩⟩
                  · obtain ⟨-, z⟩ := q4755
                    cases z
              · obtain ⟨-, z⟩ := q4710
                cases z
          · obtain ⟨-, z⟩ := q4701
            cases z
      · obtain ⟨-, z⟩ := q4692
        cases z
  · obtain ⟨-, z⟩ := q4683
    cases z

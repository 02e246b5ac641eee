/-! ===== values: the cluster, 5 ===== -/
theorem vr_63_0 : zrx 63 0 = some (.iload_n 1, 0, 0) := by decide +kernel
theorem vr_63_1 : zrx 63 1 = some (.bipush 32, 0, 0) := by decide +kernel
theorem vr_63_3 : zrx 63 3 = some (.bipush 126, 0, 0) := by decide +kernel
theorem vr_63_5 : zrx 63 5 = some (.invokestatic 72, 97, 0) := by decide +kernel
theorem vr_63_8 : zrx 63 8 = some (.aload_n 0, 0, 0) := by decide +kernel
theorem vr_63_9 : zrx 63 9 = some (.getfield 56, 13, 12) := by decide +kernel
theorem vr_63_12 : zrx 63 12 = some (.getfield 159, 8, 1) := by decide +kernel
theorem vr_63_15 : zrx 63 15 = some (.bipush 60, 0, 0) := by decide +kernel
theorem vr_63_17 : zrx 63 17 = some (.if_icmp .ge 7, 0, 0) := by decide +kernel
theorem vr_63_20 : zrx 63 20 = some (.iconst 1, 0, 0) := by decide +kernel
theorem vr_63_21 : zrx 63 21 = some (.goto 4, 0, 0) := by decide +kernel
theorem vr_63_24 : zrx 63 24 = some (.iconst 0, 0, 0) := by decide +kernel
theorem vr_63_25 : zrx 63 25 = some (.invokestatic 83, 98, 0) := by decide +kernel
theorem vr_63_28 : zrx 63 28 = some (.aload_n 0, 0, 0) := by decide +kernel
theorem vr_63_29 : zrx 63 29 = some (.getfield 56, 13, 12) := by decide +kernel
theorem vr_63_32 : zrx 63 32 = some (.getfield 162, 8, 0) := by decide +kernel
theorem vr_63_35 : zrx 63 35 = some (.aload_n 0, 0, 0) := by decide +kernel
theorem vr_63_36 : zrx 63 36 = some (.getfield 56, 13, 12) := by decide +kernel
theorem vr_63_39 : zrx 63 39 = some (.getfield 159, 8, 1) := by decide +kernel
theorem vr_63_42 : zrx 63 42 = some (.iload_n 1, 0, 0) := by decide +kernel
theorem vr_63_43 : zrx 63 43 = some (.iastore, 0, 0) := by decide +kernel
theorem vr_63_44 : zrx 63 44 = some (.aload_n 0, 0, 0) := by decide +kernel
theorem vr_63_45 : zrx 63 45 = some (.getfield 56, 13, 12) := by decide +kernel
theorem vr_63_48 : zrx 63 48 = some (.dup, 0, 0) := by decide +kernel
theorem vr_63_49 : zrx 63 49 = some (.getfield 159, 8, 1) := by decide +kernel
theorem vr_63_52 : zrx 63 52 = some (.iconst 1, 0, 0) := by decide +kernel
theorem vr_63_53 : zrx 63 53 = some (.iadd, 0, 0) := by decide +kernel
theorem vr_63_54 : zrx 63 54 = some (.putfield 159, 8, 1) := by decide +kernel
theorem vr_63_57 : zrx 63 57 = some (.aload_n 0, 0, 0) := by decide +kernel
theorem vr_63_58 : zrx 63 58 = some (.getfield 56, 13, 12) := by decide +kernel
theorem vr_63_61 : zrx 63 61 = some (.getfield 159, 8, 1) := by decide +kernel
theorem vr_63_64 : zrx 63 64 = some (.ireturn, 0, 0) := by decide +kernel
theorem vr_64_0 : zrx 64 0 = some (.aload_n 0, 0, 0) := by decide +kernel
theorem vr_64_1 : zrx 64 1 = some (.getfield 42, 13, 10) := by decide +kernel
theorem vr_64_4 : zrx 64 4 = some (.getfield 165, 5, 2) := by decide +kernel
theorem vr_64_7 : zrx 64 7 = some (.bipush 24, 0, 0) := by decide +kernel
theorem vr_64_9 : zrx 64 9 = some (.if_icmp .ge 7, 0, 0) := by decide +kernel
theorem vr_64_12 : zrx 64 12 = some (.iconst 1, 0, 0) := by decide +kernel
theorem vr_64_13 : zrx 64 13 = some (.goto 4, 0, 0) := by decide +kernel
theorem vr_64_16 : zrx 64 16 = some (.iconst 0, 0, 0) := by decide +kernel
theorem vr_64_17 : zrx 64 17 = some (.invokestatic 83, 98, 0) := by decide +kernel
theorem vr_64_20 : zrx 64 20 = some (.aload_n 0, 0, 0) := by decide +kernel
theorem vr_64_21 : zrx 64 21 = some (.aload_n 0, 0, 0) := by decide +kernel
theorem vr_64_22 : zrx 64 22 = some (.getfield 42, 13, 10) := by decide +kernel
theorem vr_64_25 : zrx 64 25 = some (.getfield 165, 5, 2) := by decide +kernel
theorem vr_64_28 : zrx 64 28 = some (.invokevirtual 166, 100, 140) := by decide +kernel
theorem vr_64_31 : zrx 64 31 = some (.ifCond .eq 15, 0, 0) := by decide +kernel
theorem vr_64_34 : zrx 64 34 = some (.aload_n 0, 0, 0) := by decide +kernel
theorem vr_64_35 : zrx 64 35 = some (.getfield 42, 13, 10) := by decide +kernel
theorem vr_64_38 : zrx 64 38 = some (.getfield 165, 5, 2) := by decide +kernel
theorem vr_64_41 : zrx 64 41 = some (.iconst 1, 0, 0) := by decide +kernel
theorem vr_64_42 : zrx 64 42 = some (.isub, 0, 0) := by decide +kernel
theorem vr_64_43 : zrx 64 43 = some (.goto 4, 0, 0) := by decide +kernel
theorem vr_64_46 : zrx 64 46 = some (.iconst (-1), 0, 0) := by decide +kernel
theorem vr_64_47 : zrx 64 47 = some (.ireturn, 0, 0) := by decide +kernel
theorem vr_65_0 : zrx 65 0 = some (.iload_n 1, 0, 0) := by decide +kernel
theorem vr_65_1 : zrx 65 1 = some (.aload_n 0, 0, 0) := by decide +kernel
theorem vr_65_2 : zrx 65 2 = some (.getfield 42, 13, 10) := by decide +kernel
theorem vr_65_5 : zrx 65 5 = some (.getfield 165, 5, 2) := by decide +kernel
theorem vr_65_8 : zrx 65 8 = some (.invokestatic 68, 96, 0) := by decide +kernel
theorem vr_65_11 : zrx 65 11 = some (.aload_n 0, 0, 0) := by decide +kernel
theorem vr_65_12 : zrx 65 12 = some (.getfield 42, 13, 10) := by decide +kernel
theorem vr_65_15 : zrx 65 15 = some (.getfield 170, 5, 0) := by decide +kernel
theorem vr_65_18 : zrx 65 18 = some (.iload_n 1, 0, 0) := by decide +kernel
theorem vr_65_19 : zrx 65 19 = some (.aaload, 0, 0) := by decide +kernel
theorem vr_65_20 : zrx 65 20 = some (.getfield 174, 3, 2) := by decide +kernel
theorem vr_65_23 : zrx 65 23 = some (.ifCond .ne 7, 0, 0) := by decide +kernel
theorem vr_65_26 : zrx 65 26 = some (.iconst 1, 0, 0) := by decide +kernel
theorem vr_65_27 : zrx 65 27 = some (.goto 4, 0, 0) := by decide +kernel
theorem vr_65_30 : zrx 65 30 = some (.iconst 0, 0, 0) := by decide +kernel
theorem vr_65_31 : zrx 65 31 = some (.invokestatic 83, 98, 0) := by decide +kernel
theorem vr_65_34 : zrx 65 34 = some (.aload_n 0, 0, 0) := by decide +kernel
theorem vr_65_35 : zrx 65 35 = some (.iload_n 1, 0, 0) := by decide +kernel
theorem vr_65_36 : zrx 65 36 = some (.invokevirtual 166, 100, 140) := by decide +kernel
theorem vr_65_39 : zrx 65 39 = some (.ireturn, 0, 0) := by decide +kernel
theorem vr_158_0 : zrx 158 0 = some (.iload_n 1, 0, 0) := by decide +kernel
theorem vr_158_1 : zrx 158 1 = some (.iconst 0, 0, 0) := by decide +kernel
theorem vr_158_2 : zrx 158 2 = some (.aload_n 0, 0, 0) := by decide +kernel
theorem vr_158_3 : zrx 158 3 = some (.getfield 31, 18, 9) := by decide +kernel
theorem vr_158_6 : zrx 158 6 = some (.invokeinterface 59 1, 304, 35) := by decide +kernel
theorem vr_158_11 : zrx 158 11 = some (.iconst 1, 0, 0) := by decide +kernel
theorem vr_158_12 : zrx 158 12 = some (.isub, 0, 0) := by decide +kernel
theorem vr_158_13 : zrx 158 13 = some (.invokestatic 209, 132, 0) := by decide +kernel
theorem vr_158_16 : zrx 158 16 = some (.ireturn, 0, 0) := by decide +kernel
theorem vr_159_0 : zrx 159 0 = some (.aload_n 0, 0, 0) := by decide +kernel
theorem vr_159_1 : zrx 159 1 = some (.getfield 31, 18, 9) := by decide +kernel
theorem vr_159_4 : zrx 159 4 = some (.iload_n 1, 0, 0) := by decide +kernel
theorem vr_159_5 : zrx 159 5 = some (.invokeinterface 65 2, 306, 35) := by decide +kernel
theorem vr_159_10 : zrx 159 10 = some (.checkcast 108, 15, 0) := by decide +kernel
theorem vr_159_13 : zrx 159 13 = some (.getfield 235, 15, 9) := by decide +kernel
theorem vr_159_16 : zrx 159 16 = some (.ifCond .ne 7, 0, 0) := by decide +kernel
theorem vr_159_19 : zrx 159 19 = some (.iconst 1, 0, 0) := by decide +kernel
theorem vr_159_20 : zrx 159 20 = some (.goto 4, 0, 0) := by decide +kernel
theorem vr_159_23 : zrx 159 23 = some (.iconst 0, 0, 0) := by decide +kernel
theorem vr_159_24 : zrx 159 24 = some (.ireturn, 0, 0) := by decide +kernel
theorem vr_161_0 : zrx 161 0 = some (.aload_n 0, 0, 0) := by decide +kernel
theorem vr_161_1 : zrx 161 1 = some (.iconst 0, 0, 0) := by decide +kernel
theorem vr_161_2 : zrx 161 2 = some (.putfield 55, 18, 0) := by decide +kernel
theorem vr_161_5 : zrx 161 5 = some (.aload_n 0, 0, 0) := by decide +kernel
theorem vr_161_6 : zrx 161 6 = some (.getfield 31, 18, 9) := by decide +kernel
theorem vr_161_9 : zrx 161 9 = some (.invokeinterface 59 1, 304, 35) := by decide +kernel
theorem vr_161_14 : zrx 161 14 = some (.bipush 24, 0, 0) := by decide +kernel
theorem vr_161_16 : zrx 161 16 = some (.if_icmp .ne 9, 0, 0) := by decide +kernel
theorem vr_161_19 : zrx 161 19 = some (.aload_n 0, 0, 0) := by decide +kernel
theorem vr_161_20 : zrx 161 20 = some (.iconst 1, 0, 0) := by decide +kernel
theorem vr_161_21 : zrx 161 21 = some (.invokevirtual 212, 131, 190) := by decide +kernel
theorem vr_161_24 : zrx 161 24 = some (.ireturn, 0, 0) := by decide +kernel
theorem vr_161_25 : zrx 161 25 = some (.aload_n 0, 0, 0) := by decide +kernel
theorem vr_161_26 : zrx 161 26 = some (.aload_n 0, 0, 0) := by decide +kernel
theorem vr_161_27 : zrx 161 27 = some (.getfield 31, 18, 9) := by decide +kernel
theorem vr_161_30 : zrx 161 30 = some (.invokeinterface 59 1, 304, 35) := by decide +kernel
theorem vr_161_35 : zrx 161 35 = some (.invokevirtual 252, 148, 190) := by decide +kernel
theorem vr_161_38 : zrx 161 38 = some (.astore_n 1, 0, 0) := by decide +kernel
theorem vr_161_39 : zrx 161 39 = some (.aload_n 0, 0, 0) := by decide +kernel
theorem vr_161_40 : zrx 161 40 = some (.ldc 34, 1, 3) := by decide +kernel
theorem vr_161_42 : zrx 161 42 = some (.putfield 36, 18, 10) := by decide +kernel
theorem vr_161_45 : zrx 161 45 = some (.aload_n 0, 0, 0) := by decide +kernel
theorem vr_161_46 : zrx 161 46 = some (.getfield 164, 18, 17) := by decide +kernel
theorem vr_161_49 : zrx 161 49 = some (.ifCond .eq 5, 0, 0) := by decide +kernel
theorem vr_161_52 : zrx 161 52 = some (.iconst (-1), 0, 0) := by decide +kernel
theorem vr_161_53 : zrx 161 53 = some (.ireturn, 0, 0) := by decide +kernel
theorem vr_161_54 : zrx 161 54 = some (.aload_n 0, 0, 0) := by decide +kernel
theorem vr_161_55 : zrx 161 55 = some (.getfield 31, 18, 9) := by decide +kernel
theorem vr_161_58 : zrx 161 58 = some (.aload_n 1, 0, 0) := by decide +kernel
theorem vr_161_59 : zrx 161 59 = some (.invokeinterface 219 2, 309, 35) := by decide +kernel
theorem vr_161_64 : zrx 161 64 = some (.pop, 0, 0) := by decide +kernel
theorem vr_161_65 : zrx 161 65 = some (.aload_n 0, 0, 0) := by decide +kernel
theorem vr_161_66 : zrx 161 66 = some (.getfield 31, 18, 9) := by decide +kernel
theorem vr_161_69 : zrx 161 69 = some (.invokeinterface 59 1, 304, 35) := by decide +kernel
theorem vr_161_74 : zrx 161 74 = some (.iconst 1, 0, 0) := by decide +kernel
theorem vr_161_75 : zrx 161 75 = some (.isub, 0, 0) := by decide +kernel
theorem vr_161_76 : zrx 161 76 = some (.ireturn, 0, 0) := by decide +kernel
theorem vr_162_0 : zrx 162 0 = some (.aload_n 0, 0, 0) := by decide +kernel
theorem vr_162_1 : zrx 162 1 = some (.iconst 0, 0, 0) := by decide +kernel
theorem vr_162_2 : zrx 162 2 = some (.putfield 55, 18, 0) := by decide +kernel
theorem vr_162_5 : zrx 162 5 = some (.aload_n 0, 0, 0) := by decide +kernel
theorem vr_162_6 : zrx 162 6 = some (.iload_n 1, 0, 0) := by decide +kernel
theorem vr_162_7 : zrx 162 7 = some (.invokevirtual 256, 158, 190) := by decide +kernel
theorem vr_162_10 : zrx 162 10 = some (.ifCond .ne 17, 0, 0) := by decide +kernel
theorem vr_162_13 : zrx 162 13 = some (.aload_n 0, 0, 0) := by decide +kernel
theorem vr_162_14 : zrx 162 14 = some (.iconst 1, 0, 0) := by decide +kernel
theorem vr_162_15 : zrx 162 15 = some (.invokevirtual 212, 131, 190) := by decide +kernel
theorem vr_162_18 : zrx 162 18 = some (.ifCond .le 7, 0, 0) := by decide +kernel
theorem vr_162_25 : zrx 162 25 = some (.iconst 0, 0, 0) := by decide +kernel
theorem vr_162_26 : zrx 162 26 = some (.ireturn, 0, 0) := by decide +kernel
theorem vr_162_27 : zrx 162 27 = some (.aload_n 0, 0, 0) := by decide +kernel
theorem vr_162_28 : zrx 162 28 = some (.iload_n 1, 0, 0) := by decide +kernel
theorem vr_162_29 : zrx 162 29 = some (.invokevirtual 259, 159, 190) := by decide +kernel
theorem vr_162_32 : zrx 162 32 = some (.ifCond .ne 17, 0, 0) := by decide +kernel
theorem vr_162_35 : zrx 162 35 = some (.aload_n 0, 0, 0) := by decide +kernel
theorem vr_162_36 : zrx 162 36 = some (.iconst 2, 0, 0) := by decide +kernel
theorem vr_162_37 : zrx 162 37 = some (.invokevirtual 212, 131, 190) := by decide +kernel
theorem vr_162_40 : zrx 162 40 = some (.ifCond .le 7, 0, 0) := by decide +kernel
theorem vr_162_47 : zrx 162 47 = some (.iconst 0, 0, 0) := by decide +kernel
theorem vr_162_48 : zrx 162 48 = some (.ireturn, 0, 0) := by decide +kernel
theorem vr_162_49 : zrx 162 49 = some (.aload_n 0, 0, 0) := by decide +kernel
theorem vr_162_50 : zrx 162 50 = some (.iload_n 1, 0, 0) := by decide +kernel
theorem vr_162_51 : zrx 162 51 = some (.invokevirtual 252, 148, 190) := by decide +kernel
theorem vr_162_54 : zrx 162 54 = some (.astore_n 2, 0, 0) := by decide +kernel
theorem vr_162_55 : zrx 162 55 = some (.aload_n 0, 0, 0) := by decide +kernel
theorem vr_162_56 : zrx 162 56 = some (.ldc 34, 1, 3) := by decide +kernel
theorem vr_162_58 : zrx 162 58 = some (.putfield 36, 18, 10) := by decide +kernel
theorem vr_162_61 : zrx 162 61 = some (.aload_n 0, 0, 0) := by decide +kernel
theorem vr_162_62 : zrx 162 62 = some (.getfield 164, 18, 17) := by decide +kernel
theorem vr_162_65 : zrx 162 65 = some (.ifCond .eq 5, 0, 0) := by decide +kernel
theorem vr_162_68 : zrx 162 68 = some (.iconst 0, 0, 0) := by decide +kernel
theorem vr_162_69 : zrx 162 69 = some (.ireturn, 0, 0) := by decide +kernel
theorem vr_162_70 : zrx 162 70 = some (.aload_n 0, 0, 0) := by decide +kernel
theorem vr_162_71 : zrx 162 71 = some (.getfield 31, 18, 9) := by decide +kernel
theorem vr_162_74 : zrx 162 74 = some (.iload_n 1, 0, 0) := by decide +kernel
theorem vr_162_75 : zrx 162 75 = some (.aload_n 2, 0, 0) := by decide +kernel
theorem vr_162_76 : zrx 162 76 = some (.invokeinterface 262 3, 307, 35) := by decide +kernel
theorem vr_162_81 : zrx 162 81 = some (.pop, 0, 0) := by decide +kernel
theorem vr_162_82 : zrx 162 82 = some (.iconst 1, 0, 0) := by decide +kernel
theorem vr_162_83 : zrx 162 83 = some (.ireturn, 0, 0) := by decide +kernel
theorem vr_214_0 : zrx 214 0 = some (.aload_n 2, 0, 0) := by decide +kernel
theorem vr_214_1 : zrx 214 1 = some (.aload_n 0, 0, 0) := by decide +kernel
theorem vr_214_2 : zrx 214 2 = some (.iload_n 1, 0, 0) := by decide +kernel
theorem vr_214_3 : zrx 214 3 = some (.invokevirtual 42, 63, 140) := by decide +kernel
theorem vr_214_6 : zrx 214 6 = some (.i2l, 0, 0) := by decide +kernel
theorem vr_214_7 : zrx 214 7 = some (.putfield 13, 14, 1000) := by decide +kernel
theorem vr_214_10 : zrx 214 10 = some (.goto 9, 0, 0) := by decide +kernel
theorem vr_214_13 : zrx 214 13 = some (.astore_n 3, 0, 0) := by decide +kernel
theorem vr_214_14 : zrx 214 14 = some (.iconst 1, 0, 0) := by decide +kernel
theorem vr_214_15 : zrx 214 15 = some (.ireturn, 0, 0) := by decide +kernel
theorem vr_214_16 : zrx 214 16 = some (.astore_n 3, 0, 0) := by decide +kernel
theorem vr_214_17 : zrx 214 17 = some (.iconst 2, 0, 0) := by decide +kernel
theorem vr_214_18 : zrx 214 18 = some (.ireturn, 0, 0) := by decide +kernel
theorem vr_214_19 : zrx 214 19 = some (.iconst 0, 0, 0) := by decide +kernel
theorem vr_214_20 : zrx 214 20 = some (.ireturn, 0, 0) := by decide +kernel
theorem vr_215_0 : zrx 215 0 = some (.aload_n 1, 0, 0) := by decide +kernel
theorem vr_215_1 : zrx 215 1 = some (.aload_n 0, 0, 0) := by decide +kernel
theorem vr_215_2 : zrx 215 2 = some (.invokevirtual 46, 64, 140) := by decide +kernel
theorem vr_215_5 : zrx 215 5 = some (.i2l, 0, 0) := by decide +kernel
theorem vr_215_6 : zrx 215 6 = some (.putfield 13, 14, 1000) := by decide +kernel
theorem vr_215_9 : zrx 215 9 = some (.goto 6, 0, 0) := by decide +kernel
theorem vr_215_12 : zrx 215 12 = some (.astore_n 2, 0, 0) := by decide +kernel
theorem vr_215_13 : zrx 215 13 = some (.iconst 1, 0, 0) := by decide +kernel
theorem vr_215_14 : zrx 215 14 = some (.ireturn, 0, 0) := by decide +kernel
theorem vr_215_15 : zrx 215 15 = some (.iconst 0, 0, 0) := by decide +kernel
theorem vr_215_16 : zrx 215 16 = some (.ireturn, 0, 0) := by decide +kernel
theorem vr_216_0 : zrx 216 0 = some (.aload_n 2, 0, 0) := by decide +kernel
theorem vr_216_1 : zrx 216 1 = some (.aload_n 0, 0, 0) := by decide +kernel
theorem vr_216_2 : zrx 216 2 = some (.iload_n 1, 0, 0) := by decide +kernel
theorem vr_216_3 : zrx 216 3 = some (.invokevirtual 50, 65, 140) := by decide +kernel
theorem vr_216_6 : zrx 216 6 = some (.ifCond .eq 7, 0, 0) := by decide +kernel
theorem vr_216_9 : zrx 216 9 = some (.lconst 1, 0, 0) := by decide +kernel
theorem vr_216_10 : zrx 216 10 = some (.goto 4, 0, 0) := by decide +kernel
theorem vr_216_13 : zrx 216 13 = some (.lconst 0, 0, 0) := by decide +kernel
theorem vr_216_14 : zrx 216 14 = some (.putfield 13, 14, 1000) := by decide +kernel
theorem vr_216_17 : zrx 216 17 = some (.goto 9, 0, 0) := by decide +kernel
theorem vr_216_20 : zrx 216 20 = some (.astore_n 3, 0, 0) := by decide +kernel
theorem vr_216_21 : zrx 216 21 = some (.iconst 1, 0, 0) := by decide +kernel
theorem vr_216_22 : zrx 216 22 = some (.ireturn, 0, 0) := by decide +kernel
theorem vr_216_23 : zrx 216 23 = some (.astore_n 3, 0, 0) := by decide +kernel
theorem vr_216_24 : zrx 216 24 = some (.iconst 2, 0, 0) := by decide +kernel
theorem vr_216_25 : zrx 216 25 = some (.ireturn, 0, 0) := by decide +kernel
theorem vr_216_26 : zrx 216 26 = some (.iconst 0, 0, 0) := by decide +kernel
theorem vr_216_27 : zrx 216 27 = some (.ireturn, 0, 0) := by decide +kernel
theorem vr_307_0 : zrx 307 0 = some (.iload_n 1, 0, 0) := by decide +kernel
theorem vr_307_1 : zrx 307 1 = some (.aload_n 0, 0, 0) := by decide +kernel
theorem vr_307_2 : zrx 307 2 = some (.getfield 48, 2, 2) := by decide +kernel
theorem vr_307_5 : zrx 307 5 = some (.invokestatic 118, 316, 0) := by decide +kernel
theorem vr_307_8 : zrx 307 8 = some (.pop, 0, 0) := by decide +kernel
theorem vr_307_9 : zrx 307 9 = some (.aload_n 0, 0, 0) := by decide +kernel
theorem vr_307_10 : zrx 307 10 = some (.iload_n 1, 0, 0) := by decide +kernel
theorem vr_307_11 : zrx 307 11 = some (.invokevirtual 123, 305, 30) := by decide +kernel
theorem vr_307_14 : zrx 307 14 = some (.astore_n 3, 0, 0) := by decide +kernel
theorem vr_307_15 : zrx 307 15 = some (.aload_n 0, 0, 0) := by decide +kernel
theorem vr_307_16 : zrx 307 16 = some (.getfield 9, 2, 1) := by decide +kernel
theorem vr_307_19 : zrx 307 19 = some (.iload_n 1, 0, 0) := by decide +kernel
theorem vr_307_20 : zrx 307 20 = some (.aload_n 2, 0, 0) := by decide +kernel
theorem vr_307_21 : zrx 307 21 = some (.aastore, 0, 0) := by decide +kernel
theorem vr_307_22 : zrx 307 22 = some (.aload_n 3, 0, 0) := by decide +kernel
theorem vr_307_23 : zrx 307 23 = some (.areturn, 0, 0) := by decide +kernel
theorem vh_63_5_1 : zHit (zi 63) 5 1 = none := by decide +kernel
theorem vh_63_25_2 : zHit (zi 63) 25 2 = none := by decide +kernel
theorem vh_64_17_2 : zHit (zi 64) 17 2 = none := by decide +kernel
theorem vh_65_8_0 : zHit (zi 65) 8 0 = none := by decide +kernel
theorem vh_65_31_2 : zHit (zi 65) 31 2 = none := by decide +kernel
theorem vh_214_3_1 : (zHit (zi 214) 3 1).map (fun r => r.2.2.1) = some 13 := by decide +kernel
theorem vh_214_3_2 : (zHit (zi 214) 3 2).map (fun r => r.2.2.1) = some 16 := by decide +kernel
theorem vh_215_2_2 : (zHit (zi 215) 2 2).map (fun r => r.2.2.1) = some 12 := by decide +kernel
theorem vh_216_3_0 : (zHit (zi 216) 3 0).map (fun r => r.2.2.1) = some 20 := by decide +kernel
theorem vh_216_3_2 : (zHit (zi 216) 3 2).map (fun r => r.2.2.1) = some 23 := by decide +kernel
theorem C_feed (n : Nat) (c : Int32) (h : List zC) (u : Nat) {L : Nat} (hS : Stc h) (t1 : gF h 183 1 = some (.int (Int32.ofNat L))) (t2 : L ≤ 60) : zL zrx zi n 63 0 [(0, .ref 16), (1, .int c)] [] h u (fun o h2 _ => match o with
  | .inl v => (rI 32 126 c ∧ L < 60) ∧ v = some (.int (Int32.ofNat (L + 1))) ∧ ∃ h1 : List zC, hPut h h1 184 L (.int c) ∧ hPut h1 h2 183 1 (.int (Int32.ofNat (L + 1)))
  | .inr E => hExt h h2 ∧ ((E = 1 ∧ ¬ rI 32 126 c) ∨ (E = 2 ∧ rI 32 126 c ∧ L = 60))) := by
  refine zSiload (m := 1) (k := 1) vr_63_0 rfl rfl rfl (fun x2116 e2116 => ?_)
  cases e2116
  refine zSp0 (pc' := 3) (st' := .int (32) :: _) vr_63_1 rfl rfl ?_
  refine zSp0 (pc' := 5) (st' := .int (126) :: _) vr_63_3 rfl rfl ?_
  refine zScall vr_63_5 rfl rfl rfl (fun m2119 _ => C_val _ _ _ _ _ _) (fun v2119 h2119 u2119 q2119 => ?_) (fun E2119 h2119 u2119 q2119 => ?_)
  · obtain ⟨eh2119, rfl, r1⟩ := q2119
    replace eh2119 := eh2119.symm
    subst eh2119
    show zL zrx zi _ 63 8 [(0, _), (1, _)] [] _ _ _
    refine zSaload (m := 1) (k := 0) vr_63_8 rfl rfl rfl ?_
    refine zLget vr_63_9 rfl (fun p2121 w2121 e2121 t2121 g2121 => ?_)
    cases e2121
    first | (rw [(st_16_12 hS)] at g2121; cases g2121) | (rw [t1] at g2121; cases g2121) | (rw [(st_183_0 hS)] at g2121; cases g2121) | (rw [f12] at g2121; cases g2121) | (rw [f1] at g2121; cases g2121) | skip
    refine zLget vr_63_12 rfl (fun p2122 w2122 e2122 t2122 g2122 => ?_)
    cases e2122
    first | (rw [(st_16_12 hS)] at g2122; cases g2122) | (rw [t1] at g2122; cases g2122) | (rw [(st_183_0 hS)] at g2122; cases g2122) | (rw [f12] at g2122; cases g2122) | (rw [f1] at g2122; cases g2122) | skip
    refine zSp0 (pc' := 17) (st' := .int (60) :: _) vr_63_15 rfl rfl ?_
    refine zSb2 (f := fun x y => decide (y ≤ x)) (off := 7) (t := 24) vr_63_17 rfl rfl rfl (fun x2124 y2124 e2124 f2124 q2124 => ?_) (fun x2124 y2124 e2124 f2124 q2124 => ?_)
    · cases e2124
      cases f2124
      have c2124 := of_decide_eq_true q2124
      refine zSp0 (pc' := 25) (st' := .int (0) :: _) vr_63_24 rfl rfl ?_
      refine zScall vr_63_25 rfl rfl rfl (fun m _ => C_needState _ _ _ _) (fun v h u q => absurd rfl q.2.2) (fun E h3 u q => ?_)
      obtain ⟨rfl, -, q2⟩ := q
      rw [zCat_no vh_63_25_2]
      refine ⟨q2, Or.inr ⟨rfl, r1, ?_⟩⟩
      have y := c2124
      have z60 : (60 : Int32).toInt = 60 := rfl
      rw [i32_le, z60, (toNat_ofNat (show L < 2147483648 by omega)).2] at y
      omega
    · cases e2124
      cases f2124
      have c2124 := ndc q2124
      refine zSp0 (pc' := 21) (st' := .int (1) :: _) vr_63_20 rfl rfl ?_
      refine zSgo (t := 25) vr_63_21 rfl rfl ?_
      refine zScall vr_63_25 rfl rfl rfl (fun m2127 _ => C_needState _ _ _ _) (fun v2127 h2127 u2127 q2127 => ?_) (fun E2127 h2127 u2127 q2127 => ?_)
      · obtain ⟨eh2127, rfl, -⟩ := q2127
        replace eh2127 := eh2127.symm
        subst eh2127
        show zL zrx zi _ 63 28 [(0, _), (1, _)] [] _ _ _
        have l60 : L < 60 := by
          have y := c2124
          have z60 : (60 : Int32).toInt = 60 := rfl
          rw [i32_le, z60, (toNat_ofNat (show L < 2147483648 by omega)).2] at y
          omega
        have kL := toNat_ofNat (show L < 2147483648 by omega)
        refine zSaload (m := 1) (k := 0) vr_63_28 rfl rfl rfl ?_
        refine zLget vr_63_29 rfl (fun p2129 w2129 e2129 t2129 g2129 => ?_)
        cases e2129
        first | (rw [(st_16_12 hS)] at g2129; cases g2129) | (rw [t1] at g2129; cases g2129) | (rw [(st_183_0 hS)] at g2129; cases g2129) | (rw [f12] at g2129; cases g2129) | (rw [f1] at g2129; cases g2129) | skip
        refine zLget vr_63_32 rfl (fun p2130 w2130 e2130 t2130 g2130 => ?_)
        cases e2130
        first | (rw [(st_16_12 hS)] at g2130; cases g2130) | (rw [t1] at g2130; cases g2130) | (rw [(st_183_0 hS)] at g2130; cases g2130) | (rw [f12] at g2130; cases g2130) | (rw [f1] at g2130; cases g2130) | skip
        refine zSaload (m := 1) (k := 0) vr_63_35 rfl rfl rfl ?_
        refine zLget vr_63_36 rfl (fun p2132 w2132 e2132 t2132 g2132 => ?_)
        cases e2132
        first | (rw [(st_16_12 hS)] at g2132; cases g2132) | (rw [t1] at g2132; cases g2132) | (rw [(st_183_0 hS)] at g2132; cases g2132) | (rw [f12] at g2132; cases g2132) | (rw [f1] at g2132; cases g2132) | skip
        refine zLget vr_63_39 rfl (fun p2133 w2133 e2133 t2133 g2133 => ?_)
        cases e2133
        first | (rw [(st_16_12 hS)] at g2133; cases g2133) | (rw [t1] at g2133; cases g2133) | (rw [(st_183_0 hS)] at g2133; cases g2133) | (rw [f12] at g2133; cases g2133) | (rw [f1] at g2133; cases g2133) | skip
        refine zSiload (m := 1) (k := 1) vr_63_42 rfl rfl rfl (fun x2134 e2134 => ?_)
        cases e2134
        refine zLiast vr_63_43 rfl (fun p2135 x2135 z2135 k2135 e2135 f2135 d2135 c2135 t2135 g2135 => ?_)
        cases e2135
        cases f2135
        cases d2135
        have g43 := g2135
        rw [kL.1] at g43
        have hS2 := hS.put g43 s184
        have f12 := st_16_12 hS2
        have f1 := (g43.2.1 183 1).trans ((if_neg (by omega)).trans t1)
        refine zSaload (m := 1) (k := 0) vr_63_44 rfl rfl rfl ?_
        refine zLget vr_63_45 rfl (fun p2137 w2137 e2137 t2137 g2137 => ?_)
        cases e2137
        first | (rw [(st_16_12 hS)] at g2137; cases g2137) | (rw [t1] at g2137; cases g2137) | (rw [(st_183_0 hS)] at g2137; cases g2137) | (rw [f12] at g2137; cases g2137) | (rw [f1] at g2137; cases g2137) | skip
        refine zSdup vr_63_48 rfl ?_
        refine zLget vr_63_49 rfl (fun p2139 w2139 e2139 t2139 g2139 => ?_)
        cases e2139
        first | (rw [(st_16_12 hS)] at g2139; cases g2139) | (rw [t1] at g2139; cases g2139) | (rw [(st_183_0 hS)] at g2139; cases g2139) | (rw [f12] at g2139; cases g2139) | (rw [f1] at g2139; cases g2139) | skip
        refine zSp0 (pc' := 53) (st' := .int (1) :: _) vr_63_52 rfl rfl ?_
        refine zS2 (f := fun x y => .int (x + y)) vr_63_53 rfl rfl (fun x2141 y2141 e2141 f2141 => ?_)
        cases e2141
        cases f2141
        refine zLput vr_63_54 rfl (fun p2142 k2142 e2142 t2142 g2142 => ?_)
        cases e2142
        have g54 := g2142
        rw [ofNat_succ1] at g54
        have f12 := st_16_12 (hS2.fld g54 (by decide +kernel))
        have f1 := (g54.2.1 183 1).trans (if_pos ⟨rfl, rfl⟩)
        refine zSaload (m := 1) (k := 0) vr_63_57 rfl rfl rfl ?_
        refine zLget vr_63_58 rfl (fun p2144 w2144 e2144 t2144 g2144 => ?_)
        cases e2144
        first | (rw [(st_16_12 hS)] at g2144; cases g2144) | (rw [t1] at g2144; cases g2144) | (rw [(st_183_0 hS)] at g2144; cases g2144) | (rw [f12] at g2144; cases g2144) | (rw [f1] at g2144; cases g2144) | skip
        refine zLget vr_63_61 rfl (fun p2145 w2145 e2145 t2145 g2145 => ?_)
        cases e2145
        first | (rw [(st_16_12 hS)] at g2145; cases g2145) | (rw [t1] at g2145; cases g2145) | (rw [(st_183_0 hS)] at g2145; cases g2145) | (rw [f12] at g2145; cases g2145) | (rw [f1] at g2145; cases g2145) | skip
        refine zLiret vr_63_64 rfl (fun x2146 e2146 => ?_)
        cases e2146
        exact ⟨⟨r1, l60⟩, rfl, _, g43, g54⟩
      · obtain ⟨-, z, -⟩ := q2127
        exact absurd z (by decide)
  · obtain ⟨rfl, q1, q2⟩ := q2119
    rw [zCat_no vh_63_5_1]
    exact ⟨q2, Or.inl ⟨rfl, q1⟩⟩
abbrev Q_Lfeed (L : Nat) (c : Int32) (h : List zC) : zK := fun o h2 _ => ∃ k : Int32, o = .inl (some (.int k)) ∧
  ((k = 0 ∧ (rI 32 126 c ∧ L < 60) ∧ ∃ h1 h3 : List zC, hPut h h1 184 L (.int c) ∧ hPut h1 h3 183 1 (.int (Int32.ofNat (L + 1))) ∧ hPut h3 h2 238 0 (.long (Int32.ofNat (L + 1)).toInt64)) ∨ (k = 1 ∧ ¬ rI 32 126 c ∧ hExt h h2) ∨ (k = 2 ∧ rI 32 126 c ∧ L = 60 ∧ hExt h h2))
theorem C_Lfeed (n : Nat) (c : Int32) (h : List zC) (u : Nat) {L : Nat} (hS : Stc h) (t1 : gF h 183 1 = some (.int (Int32.ofNat L))) (t2 : L ≤ 60) : zL zrx zi n 214 0 [(0, .ref 16), (1, .int c), (2, .ref 238)] [] h u (Q_Lfeed L c h) := by
  refine zSaload (m := 1) (k := 2) vr_214_0 rfl rfl rfl ?_
  refine zSaload (m := 1) (k := 0) vr_214_1 rfl rfl rfl ?_
  refine zSiload (m := 1) (k := 1) vr_214_2 rfl rfl rfl (fun x2149 e2149 => ?_)
  cases e2149
  refine zScall vr_214_3 rfl rfl rfl (fun m2150 _ => C_feed _ _ _ _ hS t1 t2) (fun v2150 h2150 u2150 q2150 => ?_) (fun E2150 h2150 u2150 q2150 => ?_)
  · obtain ⟨k1, rfl, i2150, k2, k3⟩ := q2150
    show zL zrx zi _ 214 6 [(0, _), (1, _), (2, _)] [_, _] _ _ _
    refine zS1 (f := fun x => .long x.toInt64) vr_214_6 rfl rfl (fun x2151 e2151 => ?_)
    cases e2151
    refine zLput vr_214_7 rfl (fun p2152 k2152 e2152 t2152 g2152 => ?_)
    cases e2152
    have gP := g2152
    refine zSgo (t := 19) vr_214_10 rfl rfl ?_
    refine zSp0 (pc' := 20) (st' := .int (0) :: _) vr_214_19 rfl rfl ?_
    refine zLiret vr_214_20 rfl (fun x2155 e2155 => ?_)
    cases e2155
    exact ⟨_, rfl, Or.inl ⟨rfl, k1, _, _, k2, k3, gP⟩⟩
  · obtain ⟨q1, ⟨rfl, z⟩ | ⟨rfl, z⟩⟩ := q2150
    · rw [zCat_hit (k := 3) (m := 1) vh_214_3_1 vr_214_13 rfl (by decide)]
      show zL zrx zi _ 214 14 [(0, _), (1, _), (2, _)] [] _ _ _
      refine zSp0 (pc' := 15) (st' := .int (1) :: _) vr_214_14 rfl rfl ?_
      refine zLiret vr_214_15 rfl (fun x2157 e2157 => ?_)
      cases e2157
      exact ⟨_, rfl, Or.inr (Or.inl ⟨rfl, z, q1⟩)⟩
    · rw [zCat_hit (k := 3) (m := 1) vh_214_3_2 vr_214_16 rfl (by decide)]
      show zL zrx zi _ 214 17 [(0, _), (1, _), (2, _)] [] _ _ _
      refine zSp0 (pc' := 18) (st' := .int (2) :: _) vr_214_17 rfl rfl ?_
      refine zLiret vr_214_18 rfl (fun x2159 e2159 => ?_)
      cases e2159
      exact ⟨_, rfl, Or.inr (Or.inr ⟨rfl, z.1, z.2, q1⟩)⟩
theorem C_write (n : Nat)  (h : List zC) (u : Nat) {T : Nat → Int32} {L : Nat} {cnt : Int32} (hS : Stc h) (h0c : 0 ≤ cnt.toInt) (hc2 : cnt.toInt ≤ 24) (t1 : gF h 183 1 = some (.int (Int32.ofNat L))) (t2 : L ≤ 60) (t3 : ∀ i, i < L → gF h 184 i = some (.int (T i))) (t4 : gF h 71 2 = some (.int cnt)) : zL zrx zi n 64 0 [(0, .ref 16)] [] h u (fun o h2 _ => match o with
  | .inl v => (cnt.toInt < 24) ∧ ∃ b : Int32, TD T L cnt cnt h h2 (.inl (some (.int b))) ∧ v = some (.int (if b = 0 then -1 else mxI cnt (cnt + 1) - 1))
  | .inr E => hExt h h2 ∧ E = 2 ∧ ¬ cnt.toInt < 24) := by
  refine zSaload (m := 1) (k := 0) vr_64_0 rfl rfl rfl ?_
  refine zLget vr_64_1 rfl (fun p2161 w2161 e2161 t2161 g2161 => ?_)
  cases e2161
  first | (rw [(st_16_10 hS)] at g2161; cases g2161) | (rw [t4] at g2161; cases g2161) | (rw [fa] at g2161; cases g2161) | (rw [fb] at g2161; cases g2161) | skip
  refine zLget vr_64_4 rfl (fun p2162 w2162 e2162 t2162 g2162 => ?_)
  cases e2162
  first | (rw [(st_16_10 hS)] at g2162; cases g2162) | (rw [t4] at g2162; cases g2162) | (rw [fa] at g2162; cases g2162) | (rw [fb] at g2162; cases g2162) | skip
  refine zSp0 (pc' := 9) (st' := .int (24) :: _) vr_64_7 rfl rfl ?_
  refine zSb2 (f := fun x y => decide (y ≤ x)) (off := 7) (t := 16) vr_64_9 rfl rfl rfl (fun x2164 y2164 e2164 f2164 q2164 => ?_) (fun x2164 y2164 e2164 f2164 q2164 => ?_)
  · cases e2164
    cases f2164
    have c2164 := of_decide_eq_true q2164
    refine zSp0 (pc' := 17) (st' := .int (0) :: _) vr_64_16 rfl rfl ?_
    refine zScall vr_64_17 rfl rfl rfl (fun m _ => C_needState _ _ _ _) (fun v h u q => absurd rfl q.2.2) (fun E h3 u q => ?_)
    obtain ⟨rfl, -, q2⟩ := q
    rw [zCat_no vh_64_17_2]
    refine ⟨q2, rfl, fun z => ?_⟩
    have y := c2164
    have z24 : (24 : Int32).toInt = 24 := rfl
    rw [i32_le, z24] at y
    omega
  · cases e2164
    cases f2164
    have c2164 := ndc q2164
    refine zSp0 (pc' := 13) (st' := .int (1) :: _) vr_64_12 rfl rfl ?_
    refine zSgo (t := 17) vr_64_13 rfl rfl ?_
    refine zScall vr_64_17 rfl rfl rfl (fun m2167 _ => C_needState _ _ _ _) (fun v2167 h2167 u2167 q2167 => ?_) (fun E2167 h2167 u2167 q2167 => ?_)
    · obtain ⟨eh2167, rfl, -⟩ := q2167
      replace eh2167 := eh2167.symm
      subst eh2167
      show zL zrx zi _ 64 20 [(0, _)] [] _ _ _
      have l24 : cnt.toInt < 24 := by
        have y := c2164
        have z24 : (24 : Int32).toInt = 24 := rfl
        rw [i32_le, z24] at y
        omega
      refine zSaload (m := 1) (k := 0) vr_64_20 rfl rfl rfl ?_
      refine zSaload (m := 1) (k := 0) vr_64_21 rfl rfl rfl ?_
      refine zLget vr_64_22 rfl (fun p2170 w2170 e2170 t2170 g2170 => ?_)
      cases e2170
      first | (rw [(st_16_10 hS)] at g2170; cases g2170) | (rw [t4] at g2170; cases g2170) | (rw [fa] at g2170; cases g2170) | (rw [fb] at g2170; cases g2170) | skip
      refine zLget vr_64_25 rfl (fun p2171 w2171 e2171 t2171 g2171 => ?_)
      cases e2171
      first | (rw [(st_16_10 hS)] at g2171; cases g2171) | (rw [t4] at g2171; cases g2171) | (rw [fa] at g2171; cases g2171) | (rw [fb] at g2171; cases g2171) | skip
      refine zScall vr_64_28 rfl rfl rfl (fun m2172 _ => C_draft _ _ _ _ h0c l24 hc2 hS t1 t2 t3 t4) (fun v2172 h2172 u2172 q2172 => ?_) (fun E2172 h2172 u2172 q2172 => ?_)
      · obtain ⟨bb2172, z2172⟩ := td_o q2172
        cases z2172
        have dd2172 := q2172
        show zL zrx zi _ 64 31 [(0, _)] [_] _ _ _
        refine zSb1 (f := fun x => decide (x = 0)) (off := 15) (t := 46) vr_64_31 rfl rfl rfl (fun x2173 e2173 q2173 => ?_) (fun x2173 e2173 q2173 => ?_)
        · cases e2173
          have c2173 := of_decide_eq_true q2173
          refine zSp0 (pc' := 47) (st' := .int (-1) :: _) vr_64_46 rfl rfl ?_
          refine zLiret vr_64_47 rfl (fun x2175 e2175 => ?_)
          cases e2175
          first
            | exact ⟨l24, _, dd2172, by rw [if_pos c2173]⟩
            | exact ⟨l24, _, dd2172, by rw [if_neg c2173]⟩
        · cases e2173
          have c2173 := ndc q2173
          obtain ⟨p1, F1, e1, cz1, fab, fb⟩ := td_y hS.1 dd2172 c2173
          have fa := fab.2.trans (st_16_10 hS)
          refine zSaload (m := 1) (k := 0) vr_64_34 rfl rfl rfl ?_
          refine zLget vr_64_35 rfl (fun p2177 w2177 e2177 t2177 g2177 => ?_)
          cases e2177
          first | (rw [(st_16_10 hS)] at g2177; cases g2177) | (rw [t4] at g2177; cases g2177) | (rw [fa] at g2177; cases g2177) | (rw [fb] at g2177; cases g2177) | skip
          refine zLget vr_64_38 rfl (fun p2178 w2178 e2178 t2178 g2178 => ?_)
          cases e2178
          first | (rw [(st_16_10 hS)] at g2178; cases g2178) | (rw [t4] at g2178; cases g2178) | (rw [fa] at g2178; cases g2178) | (rw [fb] at g2178; cases g2178) | skip
          refine zSp0 (pc' := 42) (st' := .int (1) :: _) vr_64_41 rfl rfl ?_
          refine zS2 (f := fun x y => .int (x - y)) vr_64_42 rfl rfl (fun x2180 y2180 e2180 f2180 => ?_)
          cases e2180
          cases f2180
          refine zSgo (t := 47) vr_64_43 rfl rfl ?_
          refine zLiret vr_64_47 rfl (fun x2182 e2182 => ?_)
          cases e2182
          first
            | exact ⟨l24, _, dd2172, by rw [if_pos c2173]⟩
            | exact ⟨l24, _, dd2172, by rw [if_neg c2173]⟩
      · obtain ⟨bb, z⟩ := td_o q2172
        cases z
    · obtain ⟨-, z, -⟩ := q2167
      exact absurd z (by decide)
abbrev Q_Lwrite (T : Nat → Int32) (L : Nat) (cnt : Int32)  (h : List zC) : zK := fun o h2 _ => ∃ k : Int32, o = .inl (some (.int k)) ∧
  ((k = 0 ∧ cnt.toInt < 24 ∧ ∃ (b : Int32) (h1 : List zC), TD T L cnt cnt h h1 (.inl (some (.int b))) ∧ hPut h1 h2 238 0 (.long (if b = 0 then -1 else mxI cnt (cnt + 1) - 1).toInt64)) ∨ (k = 1 ∧ ¬ cnt.toInt < 24 ∧ hExt h h2))
theorem C_Lwrite (n : Nat)  (h : List zC) (u : Nat) {T : Nat → Int32} {L : Nat} {cnt : Int32} (hS : Stc h) (h0c : 0 ≤ cnt.toInt) (hc2 : cnt.toInt ≤ 24) (t1 : gF h 183 1 = some (.int (Int32.ofNat L))) (t2 : L ≤ 60) (t3 : ∀ i, i < L → gF h 184 i = some (.int (T i))) (t4 : gF h 71 2 = some (.int cnt)) : zL zrx zi n 215 0 [(0, .ref 16), (1, .ref 238)] [] h u (Q_Lwrite T L cnt  h) := by
  refine zSaload (m := 1) (k := 1) vr_215_0 rfl rfl rfl ?_
  refine zSaload (m := 1) (k := 0) vr_215_1 rfl rfl rfl ?_
  refine zScall vr_215_2 rfl rfl rfl (fun m2185 _ => C_write _ _ _ hS h0c hc2 t1 t2 t3 t4) (fun v2185 h2185 u2185 q2185 => ?_) (fun E2185 h2185 u2185 q2185 => ?_)
  · obtain ⟨k1, b2185, k2, rfl⟩ := q2185
    show zL zrx zi _ 215 5 [(0, _), (1, _)] [_, _] _ _ _
    refine zS1 (f := fun x => .long x.toInt64) vr_215_5 rfl rfl (fun x2186 e2186 => ?_)
    cases e2186
    refine zLput vr_215_6 rfl (fun p2187 k2187 e2187 t2187 g2187 => ?_)
    cases e2187
    have gP := g2187
    refine zSgo (t := 15) vr_215_9 rfl rfl ?_
    refine zSp0 (pc' := 16) (st' := .int (0) :: _) vr_215_15 rfl rfl ?_
    refine zLiret vr_215_16 rfl (fun x2190 e2190 => ?_)
    cases e2190
    exact ⟨_, rfl, Or.inl ⟨rfl, k1, _, _, k2, gP⟩⟩
  · obtain ⟨q1, rfl, z⟩ := q2185
    rw [zCat_hit (k := 2) (m := 1) vh_215_2_2 vr_215_12 rfl (by decide)]
    show zL zrx zi _ 215 13 [(0, _), (1, _)] [] _ _ _
    refine zSp0 (pc' := 14) (st' := .int (1) :: _) vr_215_13 rfl rfl ?_
    refine zLiret vr_215_14 rfl (fun x2192 e2192 => ?_)
    cases e2192
    exact ⟨_, rfl, Or.inr ⟨rfl, z, q1⟩⟩
theorem C_amend (n : Nat) (b : Int32) (h : List zC) (u : Nat) {T : Nat → Int32} {L : Nat} {cnt : Int32} (hS : Stc h) (h0c : 0 ≤ cnt.toInt) (hc2 : cnt.toInt ≤ 24) (t1 : gF h 183 1 = some (.int (Int32.ofNat L))) (t2 : L ≤ 60) (t3 : ∀ i, i < L → gF h 184 i = some (.int (T i))) (t4 : gF h 71 2 = some (.int cnt)) : zL zrx zi n 65 0 [(0, .ref 16), (1, .int b)] [] h u (fun o h2 _ => match o with
  | .inl v => (iN cnt.toInt b ∧ iv h (73 + 4 * b.toNatClampNeg) 2 = 0) ∧ ∃ d : Int32, TD T L b cnt h h2 (.inl (some (.int d))) ∧ v = some (.int d)
  | .inr E => hExt h h2 ∧ ((E = 0 ∧ ¬ iN cnt.toInt b) ∨ (E = 2 ∧ iN cnt.toInt b ∧ ¬ iv h (73 + 4 * b.toNatClampNeg) 2 = 0))) := by
  refine zSiload (m := 1) (k := 1) vr_65_0 rfl rfl rfl (fun x2193 e2193 => ?_)
  cases e2193
  refine zSaload (m := 1) (k := 0) vr_65_1 rfl rfl rfl ?_
  refine zLget vr_65_2 rfl (fun p2195 w2195 e2195 t2195 g2195 => ?_)
  cases e2195
  first | (rw [(st_16_10 hS)] at g2195; cases g2195) | (rw [t4] at g2195; cases g2195) | (rw [(st_71_0 hS)] at g2195; cases g2195) | (rw [(st_art hS n24)] at g2195; cases g2195) | skip
  refine zLget vr_65_5 rfl (fun p2196 w2196 e2196 t2196 g2196 => ?_)
  cases e2196
  first | (rw [(st_16_10 hS)] at g2196; cases g2196) | (rw [t4] at g2196; cases g2196) | (rw [(st_71_0 hS)] at g2196; cases g2196) | (rw [(st_art hS n24)] at g2196; cases g2196) | skip
  refine zScall vr_65_8 rfl rfl rfl (fun m2197 _ => C_num6 _ _ _ _ (m := cnt.toInt) rfl) (fun v2197 h2197 u2197 q2197 => ?_) (fun E2197 h2197 u2197 q2197 => ?_)
  · obtain ⟨eh2197, rfl, r1⟩ := q2197
    replace eh2197 := eh2197.symm
    subst eh2197
    show zL zrx zi _ 65 11 [(0, _), (1, _)] [] _ _ _
    have n24 := n24i r1 hc2
    have rb : 0 ≤ b.toInt ∧ b.toInt < 24 := by
      obtain ⟨a1, a2⟩ := r1
      exact ⟨a1, by omega⟩
    refine zSaload (m := 1) (k := 0) vr_65_11 rfl rfl rfl ?_
    refine zLget vr_65_12 rfl (fun p2199 w2199 e2199 t2199 g2199 => ?_)
    cases e2199
    first | (rw [(st_16_10 hS)] at g2199; cases g2199) | (rw [t4] at g2199; cases g2199) | (rw [(st_71_0 hS)] at g2199; cases g2199) | (rw [(st_art hS n24)] at g2199; cases g2199) | skip
    refine zLget vr_65_15 rfl (fun p2200 w2200 e2200 t2200 g2200 => ?_)
    cases e2200
    first | (rw [(st_16_10 hS)] at g2200; cases g2200) | (rw [t4] at g2200; cases g2200) | (rw [(st_71_0 hS)] at g2200; cases g2200) | (rw [(st_art hS n24)] at g2200; cases g2200) | skip
    refine zSiload (m := 1) (k := 1) vr_65_18 rfl rfl rfl (fun x2201 e2201 => ?_)
    cases e2201
    refine zLaald vr_65_19 rfl (fun p2202 x2202 w2202 e2202 f2202 c2202 t2202 g2202 => ?_)
    cases e2202
    cases f2202
    first | (rw [(st_16_10 hS)] at g2202; cases g2202) | (rw [t4] at g2202; cases g2202) | (rw [(st_71_0 hS)] at g2202; cases g2202) | (rw [(st_art hS n24)] at g2202; cases g2202) | skip
    refine zLget vr_65_20 rfl (fun p2203 w2203 e2203 t2203 g2203 => ?_)
    cases e2203
    first | (rw [(st_16_10 hS)] at g2203; cases g2203) | (rw [t4] at g2203; cases g2203) | (rw [(st_71_0 hS)] at g2203; cases g2203) | (rw [(st_art hS n24)] at g2203; cases g2203) | skip
    refine zSb1 (f := fun x => decide (¬ x = 0)) (off := 7) (t := 30) vr_65_23 rfl rfl rfl (fun x2204 e2204 q2204 => ?_) (fun x2204 e2204 q2204 => ?_)
    · cases e2204
      have c2204 := of_decide_eq_true q2204
      refine zSp0 (pc' := 31) (st' := .int (0) :: _) vr_65_30 rfl rfl ?_
      refine zScall vr_65_31 rfl rfl rfl (fun m _ => C_needState _ _ _ _) (fun v h u q => absurd rfl q.2.2) (fun E h3 u q => ?_)
      obtain ⟨rfl, -, q2⟩ := q
      rw [zCat_no vh_65_31_2]
      exact ⟨q2, Or.inr ⟨rfl, r1, fun z => c2204 ((iv_of g2203).symm.trans z)⟩⟩
    · cases e2204
      have c2204 := ndc q2204
      refine zSp0 (pc' := 27) (st' := .int (1) :: _) vr_65_26 rfl rfl ?_
      refine zSgo (t := 31) vr_65_27 rfl rfl ?_
      refine zScall vr_65_31 rfl rfl rfl (fun m2207 _ => C_needState _ _ _ _) (fun v2207 h2207 u2207 q2207 => ?_) (fun E2207 h2207 u2207 q2207 => ?_)
      · obtain ⟨eh2207, rfl, -⟩ := q2207
        replace eh2207 := eh2207.symm
        subst eh2207
        show zL zrx zi _ 65 34 [(0, _), (1, _)] [] _ _ _
        refine zSaload (m := 1) (k := 0) vr_65_34 rfl rfl rfl ?_
        refine zSiload (m := 1) (k := 1) vr_65_35 rfl rfl rfl (fun x2209 e2209 => ?_)
        cases e2209
        refine zScall vr_65_36 rfl rfl rfl (fun m2210 _ => C_draft _ _ _ _ rb.1 rb.2 hc2 hS t1 t2 t3 t4) (fun v2210 h2210 u2210 q2210 => ?_) (fun E2210 h2210 u2210 q2210 => ?_)
        · obtain ⟨bb2210, z2210⟩ := td_o q2210
          cases z2210
          have dd2210 := q2210
          show zL zrx zi _ 65 39 [(0, _), (1, _)] [_] _ _ _
          refine zLiret vr_65_39 rfl (fun x2211 e2211 => ?_)
          cases e2211
          exact ⟨⟨r1, (iv_of g2203).trans (Decidable.not_not.mp c2204)⟩, _, dd2210, rfl⟩
        · obtain ⟨bb, z⟩ := td_o q2210
          cases z
      · obtain ⟨-, z, -⟩ := q2207
        exact absurd z (by decide)
  · obtain ⟨rfl, q1, q2⟩ := q2197
    rw [zCat_no vh_65_8_0]
    exact ⟨q2, Or.inl ⟨rfl, q1⟩⟩
abbrev Q_Lamend (T : Nat → Int32) (L : Nat) (cnt : Int32) (b : Int32) (h : List zC) : zK := fun o h2 _ => ∃ k : Int32, o = .inl (some (.int k)) ∧
  ((k = 0 ∧ (iN cnt.toInt b ∧ iv h (73 + 4 * b.toNatClampNeg) 2 = 0) ∧ ∃ (d : Int32) (h1 : List zC), TD T L b cnt h h1 (.inl (some (.int d))) ∧ hPut h1 h2 238 0 (.long (if d = 0 then 0 else 1))) ∨ (k = 1 ∧ ¬ iN cnt.toInt b ∧ hExt h h2) ∨ (k = 2 ∧ iN cnt.toInt b ∧ ¬ iv h (73 + 4 * b.toNatClampNeg) 2 = 0 ∧ hExt h h2))
theorem C_Lamend (n : Nat) (b : Int32) (h : List zC) (u : Nat) {T : Nat → Int32} {L : Nat} {cnt : Int32} (hS : Stc h) (h0c : 0 ≤ cnt.toInt) (hc2 : cnt.toInt ≤ 24) (t1 : gF h 183 1 = some (.int (Int32.ofNat L))) (t2 : L ≤ 60) (t3 : ∀ i, i < L → gF h 184 i = some (.int (T i))) (t4 : gF h 71 2 = some (.int cnt)) : zL zrx zi n 216 0 [(0, .ref 16), (1, .int b), (2, .ref 238)] [] h u (Q_Lamend T L cnt b h) := by
  refine zSaload (m := 1) (k := 2) vr_216_0 rfl rfl rfl ?_
  refine zSaload (m := 1) (k := 0) vr_216_1 rfl rfl rfl ?_
  refine zSiload (m := 1) (k := 1) vr_216_2 rfl rfl rfl (fun x2214 e2214 => ?_)
  cases e2214
  refine zScall vr_216_3 rfl rfl rfl (fun m2215 _ => C_amend _ _ _ _ hS h0c hc2 t1 t2 t3 t4) (fun v2215 h2215 u2215 q2215 => ?_) (fun E2215 h2215 u2215 q2215 => ?_)
  · obtain ⟨k1, d2215, k2, rfl⟩ := q2215
    show zL zrx zi _ 216 6 [(0, _), (1, _), (2, _)] [_, _] _ _ _
    refine zSb1 (f := fun x => decide (x = 0)) (off := 7) (t := 13) vr_216_6 rfl rfl rfl (fun x2216 e2216 q2216 => ?_) (fun x2216 e2216 q2216 => ?_)
    · cases e2216
      have c2216 := of_decide_eq_true q2216
      refine zSp0 vr_216_13 rfl rfl ?_
      refine zLput vr_216_14 rfl (fun p2218 k2218 e2218 t2218 g2218 => ?_)
      cases e2218
      have gP := g2218
      refine zSgo (t := 26) vr_216_17 rfl rfl ?_
      refine zSp0 (pc' := 27) (st' := .int (0) :: _) vr_216_26 rfl rfl ?_
      refine zLiret vr_216_27 rfl (fun x2221 e2221 => ?_)
      cases e2221
      first
        | exact ⟨_, rfl, Or.inl ⟨rfl, k1, _, _, k2, by rw [if_pos c2216]; exact gP⟩⟩
        | exact ⟨_, rfl, Or.inl ⟨rfl, k1, _, _, k2, by rw [if_neg c2216]; exact gP⟩⟩
    · cases e2216
      have c2216 := ndc q2216
      refine zSp0 vr_216_9 rfl rfl ?_
      refine zSgo (t := 14) vr_216_10 rfl rfl ?_
      refine zLput vr_216_14 rfl (fun p2224 k2224 e2224 t2224 g2224 => ?_)
      cases e2224
      have gP := g2224
      refine zSgo (t := 26) vr_216_17 rfl rfl ?_
      refine zSp0 (pc' := 27) (st' := .int (0) :: _) vr_216_26 rfl rfl ?_
      refine zLiret vr_216_27 rfl (fun x2227 e2227 => ?_)
      cases e2227
      first
        | exact ⟨_, rfl, Or.inl ⟨rfl, k1, _, _, k2, by rw [if_pos c2216]; exact gP⟩⟩
        | exact ⟨_, rfl, Or.inl ⟨rfl, k1, _, _, k2, by rw [if_neg c2216]; exact gP⟩⟩
  · obtain ⟨q1, ⟨rfl, z⟩ | ⟨rfl, z⟩⟩ := q2215
    · rw [zCat_hit (k := 3) (m := 1) vh_216_3_0 vr_216_20 rfl (by decide)]
      show zL zrx zi _ 216 21 [(0, _), (1, _), (2, _)] [] _ _ _
      refine zSp0 (pc' := 22) (st' := .int (1) :: _) vr_216_21 rfl rfl ?_
      refine zLiret vr_216_22 rfl (fun x2229 e2229 => ?_)
      cases e2229
      exact ⟨_, rfl, Or.inr (Or.inl ⟨rfl, z, q1⟩)⟩
    · rw [zCat_hit (k := 3) (m := 1) vh_216_3_2 vr_216_23 rfl (by decide)]
      show zL zrx zi _ 216 24 [(0, _), (1, _), (2, _)] [] _ _ _
      refine zSp0 (pc' := 25) (st' := .int (2) :: _) vr_216_24 rfl rfl ?_
      refine zLiret vr_216_25 rfl (fun x2231 e2231 => ?_)
      cases e2231
      exact ⟨_, rfl, Or.inr (Or.inr ⟨rfl, z.1, z.2, q1⟩)⟩
theorem C_lset (n : Nat) (M e : Nat) (k : Int32) (h : List zC) (u : Nat) {el : Nat} {s : Int32} (hL : gF h M 1 = some (.ref el)) (hs : gF h M 2 = some (.int s)) : zL zrx zi n 307 0 [(0, .ref M), (1, .int k), (2, .ref e)] [] h u (fun o h2 _ => ∃ w, o = .inl (some w) ∧ hPut h h2 el k.toNatClampNeg (.ref e)) := by
  refine zSiload (m := 1) (k := 1) vr_307_0 rfl rfl rfl (fun x2232 e2232 => ?_)
  cases e2232
  refine zSaload (m := 1) (k := 0) vr_307_1 rfl rfl rfl ?_
  refine zLget vr_307_2 rfl (fun p2234 w2234 e2234 t2234 g2234 => ?_)
  cases e2234
  first | (rw [hs] at g2234; cases g2234) | (rw [hL] at g2234; cases g2234) | skip
  refine zScall vr_307_5 rfl rfl rfl (fun m2235 _ => C_chk2 _ _ _ _ _) (fun v2235 h2235 u2235 q2235 => ?_) (fun E2235 h2235 u2235 q2235 => ?_)
  · obtain ⟨eh2235, z2235⟩ := q2235
    replace eh2235 := eh2235.symm
    subst eh2235
    cases z2235
    show zL zrx zi _ 307 8 [(0, _), (1, _), (2, _)] [_] _ _ _
    refine zSpop vr_307_8 rfl ?_
    refine zSaload (m := 1) (k := 0) vr_307_9 rfl rfl rfl ?_
    refine zSiload (m := 1) (k := 1) vr_307_10 rfl rfl rfl (fun x2238 e2238 => ?_)
    cases e2238
    refine zScall vr_307_11 rfl rfl rfl (fun m2239 _ => C_elem _ _ _ _ _ hL) (fun v2239 h2239 u2239 q2239 => ?_) (fun E2239 h2239 u2239 q2239 => ?_)
    · obtain ⟨eh2239, k1, w2239, z2239, k2⟩ := q2239
      replace eh2239 := eh2239.symm
      subst eh2239
      cases z2239
      show zL zrx zi _ 307 14 [(0, _), (1, _), (2, _)] [_] _ _ _
      refine zSastore (m := 1) (k := 3) vr_307_14 rfl rfl ?_
      show zL zrx zi _ 307 15 [(3, _), (0, _), (1, _), (2, _)] [] _ _ _
      refine zSaload (m := 1) (k := 0) vr_307_15 rfl rfl rfl ?_
      refine zLget vr_307_16 rfl (fun p2242 w2242 e2242 t2242 g2242 => ?_)
      cases e2242
      first | (rw [hs] at g2242; cases g2242) | (rw [hL] at g2242; cases g2242) | skip
      refine zSiload (m := 1) (k := 1) vr_307_19 rfl rfl rfl (fun x2243 e2243 => ?_)
      cases e2243
      refine zSaload (m := 1) (k := 2) vr_307_20 rfl rfl rfl ?_
      refine zLaast2 vr_307_21 rfl (fun p2245 x2245 z2245 k2245 e2245 f2245 d2245 c2245 t2245 l2245 g2245 => ?_)
      cases e2245
      cases f2245
      cases d2245
      refine zSaload (m := 1) (k := 3) vr_307_22 rfl rfl rfl ?_
      refine zSaret vr_307_23 rfl ?_
      exact ⟨_, rfl, g2245⟩
    · obtain ⟨-, -, w, z, -⟩ := q2239
      cases z
  · obtain ⟨-, z⟩ := q2235
    cases z
theorem C_isA (n : Nat) (x : Int32) (h : List zC) (u : Nat) {cnt : Int32} (hS : Stc h) (hs : gF h 225 2 = some (.int cnt)) : zL zrx zi n 158 0 [(0, .ref 213), (1, .int x)] [] h u (fun o h2 _ => h2 = h ∧ o = .inl (some (.int (inB x 0 (cnt - 1))))) := by
  refine zSiload (m := 1) (k := 1) vr_158_0 rfl rfl rfl (fun x2248 e2248 => ?_)
  cases e2248
  refine zSp0 (pc' := 2) (st' := .int (0) :: _) vr_158_1 rfl rfl ?_
  refine zSaload (m := 1) (k := 0) vr_158_2 rfl rfl rfl ?_
  refine zLget vr_158_3 rfl (fun p2251 w2251 e2251 t2251 g2251 => ?_)
  cases e2251
  first | (rw [(st_213_9 hS)] at g2251; cases g2251) | skip
  refine zScall vr_158_6 rfl rfl rfl (fun m2252 _ => C_lsize _ _ _ _ hs) (fun v2252 h2252 u2252 q2252 => ?_) (fun E2252 h2252 u2252 q2252 => ?_)
  · obtain ⟨eh2252, z2252⟩ := q2252
    replace eh2252 := eh2252.symm
    subst eh2252
    cases z2252
    show zL zrx zi _ 158 11 [(0, _), (1, _)] [_, _, _] _ _ _
    refine zSp0 (pc' := 12) (st' := .int (1) :: _) vr_158_11 rfl rfl ?_
    refine zS2 (f := fun x y => .int (x - y)) vr_158_12 rfl rfl (fun x2254 y2254 e2254 f2254 => ?_)
    cases e2254
    cases f2254
    refine zScall vr_158_13 rfl rfl rfl (fun m2255 _ => C_in _ _ _ _ _ _) (fun v2255 h2255 u2255 q2255 => ?_) (fun E2255 h2255 u2255 q2255 => ?_)
    · obtain ⟨eh2255, z2255⟩ := q2255
      replace eh2255 := eh2255.symm
      subst eh2255
      cases z2255
      show zL zrx zi _ 158 16 [(0, _), (1, _)] [_] _ _ _
      refine zLiret vr_158_16 rfl (fun x2256 e2256 => ?_)
      cases e2256
      exact ⟨rfl, rfl⟩
    · obtain ⟨-, z⟩ := q2255
      cases z
  · obtain ⟨-, z⟩ := q2252
    cases z
theorem C_isB (n : Nat) (x : Int32) (h : List zC) (u : Nat) {el A : Nat} {cnt : Int32} (hS : Stc h) (hL : gF h 225 1 = some (.ref el)) (hs : gF h 225 2 = some (.int cnt)) (hq : gF h el x.toNatClampNeg = some (.ref A)) : zL zrx zi n 159 0 [(0, .ref 213), (1, .int x)] [] h u (fun o h2 _ => h2 = h ∧ o = .inl (some (.int (if iv h A 9 = 0 then 1 else 0)))) := by
  refine zSaload (m := 1) (k := 0) vr_159_0 rfl rfl rfl ?_
  refine zLget vr_159_1 rfl (fun p2258 w2258 e2258 t2258 g2258 => ?_)
  cases e2258
  first | (rw [(st_213_9 hS)] at g2258; cases g2258) | skip
  refine zSiload (m := 1) (k := 1) vr_159_4 rfl rfl rfl (fun x2259 e2259 => ?_)
  cases e2259
  refine zScall vr_159_5 rfl rfl rfl (fun m2260 _ => C_get _ _ _ _ _ hL hs) (fun v2260 h2260 u2260 q2260 => ?_) (fun E2260 h2260 u2260 q2260 => ?_)
  · obtain ⟨eh2260, y2260, w2260, z2260, k2260⟩ := q2260
    replace eh2260 := eh2260.symm
    subst eh2260
    cases z2260
    show zL zrx zi _ 159 10 [(0, _), (1, _)] [_] _ _ _
    refine zLcst vr_159_10 rfl (fun p2261 e2261 => ?_)
    cases e2261
    have e1 := k2260
    rw [hq] at e1
    cases e1
    refine zLget vr_159_13 rfl (fun p2262 w2262 e2262 t2262 g2262 => ?_)
    cases e2262
    first | (rw [(st_213_9 hS)] at g2262; cases g2262) | skip
    refine zSb1 (f := fun x => decide (¬ x = 0)) (off := 7) (t := 23) vr_159_16 rfl rfl rfl (fun x2263 e2263 q2263 => ?_) (fun x2263 e2263 q2263 => ?_)
    · cases e2263
      have c2263 := of_decide_eq_true q2263
      refine zSp0 (pc' := 24) (st' := .int (0) :: _) vr_159_23 rfl rfl ?_
      refine zLiret vr_159_24 rfl (fun x2265 e2265 => ?_)
      cases e2265
      refine ⟨rfl, ?_⟩
      rw [iv_of g2262]
      first
        | rw [if_neg c2263]
        | rw [if_pos (Decidable.not_not.mp c2263)]
    · cases e2263
      have c2263 := ndc q2263
      refine zSp0 (pc' := 20) (st' := .int (1) :: _) vr_159_19 rfl rfl ?_
      refine zSgo (t := 24) vr_159_20 rfl rfl ?_
      refine zLiret vr_159_24 rfl (fun x2268 e2268 => ?_)
      cases e2268
      refine ⟨rfl, ?_⟩
      rw [iv_of g2262]
      first
        | rw [if_neg c2263]
        | rw [if_pos (Decidable.not_not.mp c2263)]
  · obtain ⟨-, -, w, z, -⟩ := q2260
    cases z
abbrev Q_mwrite (T : Nat → Int32) (L s b el : Nat) (cnt : Int32)  (h : List zC) : zK := fun o h2 _ => ∃ (y : Int32) (h0 : List zC), o = .inl (some (.int y)) ∧ hPut h h0 213 0 (.int 0) ∧ ((cnt = 24 ∧ hPut h0 h2 213 0 (.int 1)) ∨ (¬ cnt = 24 ∧ ∃ h1 h3 : List zC, QWr T L s b cnt h0 h1 h3 ∧ ((rd0 T L cnt Fz = none ∧ y = -1 ∧ h2 = h3) ∨ (∃ (p : Nat) (F : Nat → Int32), rd0 T L cnt Fz = some (p, F) ∧ AZ h0.length (h0.length + 1) (h0.length + 2) h3 F ∧ lAdd h3 h2 225 el cnt h0.length ∧ y = cnt))))
theorem C_mwrite (n : Nat)  (h : List zC) (u : Nat) {T : Nat → Int32} {L s b el l : Nat} {bd cnt : Int32} (hS : Stc h) (sb : SB T L s b h) (q1 : gF h 213 10 = some (.ref s)) (q2 : gF h 213 17 = some (.int bd)) (q3 : bd = 0 ∨ bd = 1) (hL : gF h 225 1 = some (.ref el)) (hs : gF h 225 2 = some (.int cnt)) (hn : gN h el = some l) (hl2 : l < 2147483648) (tE : ∃ t, gT h el = some t ∧ 93 ≤ t) (h0c : 0 ≤ cnt.toInt) (h213 : ¬ el = 213) : zL zrx zi n 161 0 [(0, .ref 213)] [] h u (Q_mwrite T L s b el cnt  h) := by
  refine zSaload (m := 1) (k := 0) vr_161_0 rfl rfl rfl ?_
  refine zSp0 (pc' := 2) (st' := .int (0) :: _) vr_161_1 rfl rfl ?_
  refine zLput vr_161_2 rfl (fun p2271 k2271 e2271 t2271 g2271 => ?_)
  cases e2271
  have t0 := g2271
  have hS0 := hS.thr t0
  have f0 : ∀ q k, ¬ (q = 213 ∧ k = 0) → gF k2271 q k = gF h q k := fun q k z => by rw [t0.2.1, if_neg z]
  have hs0 := (f0 225 2 (by omega)).trans hs
  have hL0 := (f0 225 1 (by omega)).trans hL
  have sb0 := sb.same (fun x k n => f0 x k (fun z => n z.1)) (t0.2.2.2 b)
  have q10 := (f0 213 10 (by omega)).trans q1
  have q20 := (f0 213 17 (by omega)).trans q2
  have hl0 : 239 ≤ k2271.length := hS0.1
  have el0 : el < k2271.length := by
    rw [t0.1]
    exact gN_lt hn
  refine zSaload (m := 1) (k := 0) vr_161_5 rfl rfl rfl ?_
  refine zLget vr_161_6 rfl (fun p2273 w2273 e2273 t2273 g2273 => ?_)
  cases e2273
  first | (rw [(st_213_9 hS0)] at g2273; cases g2273) | skip
  refine zScall vr_161_9 rfl rfl rfl (fun m2274 _ => C_lsize _ _ _ _ hs0) (fun v2274 h2274 u2274 q2274 => ?_) (fun E2274 h2274 u2274 q2274 => ?_)
  · obtain ⟨eh2274, z2274⟩ := q2274
    replace eh2274 := eh2274.symm
    subst eh2274
    cases z2274
    show zL zrx zi _ 161 14 [(0, _)] [_] _ _ _
    refine zSp0 (pc' := 16) (st' := .int (24) :: _) vr_161_14 rfl rfl ?_
    refine zSb2 (f := fun x y => decide (¬ x = y)) (off := 9) (t := 25) vr_161_16 rfl rfl rfl (fun x2276 y2276 e2276 f2276 q2276 => ?_) (fun x2276 y2276 e2276 f2276 q2276 => ?_)
    · cases e2276
      cases f2276
      have c2276 := of_decide_eq_true q2276
      have l24 : ¬ cnt = 24 := c2276
      refine zSaload (m := 1) (k := 0) vr_161_25 rfl rfl rfl ?_
      refine zSaload (m := 1) (k := 0) vr_161_26 rfl rfl rfl ?_
      refine zLget vr_161_27 rfl (fun p2279 w2279 e2279 t2279 g2279 => ?_)
      cases e2279
      first | (rw [(st_213_9 hS0)] at g2279; cases g2279) | skip
      refine zScall vr_161_30 rfl rfl rfl (fun m2280 _ => C_lsize _ _ _ _ hs0) (fun v2280 h2280 u2280 q2280 => ?_) (fun E2280 h2280 u2280 q2280 => ?_)
      · obtain ⟨eh2280, z2280⟩ := q2280
        replace eh2280 := eh2280.symm
        subst eh2280
        cases z2280
        show zL zrx zi _ 161 35 [(0, _)] [_, _] _ _ _
        refine zScall vr_161_35 rfl rfl rfl (fun m2281 _ => C_mread _ _ _ _ hS0 sb0 q10 q20 q3) (fun v2281 h2281 u2281 q2281 => ?_) (fun E2281 h2281 u2281 q2281 => ?_)
        · obtain ⟨z2281, rd2281⟩ := q2281
          cases z2281
          show zL zrx zi _ 161 38 [(0, _)] [_] _ _ _
          refine zSastore (m := 1) (k := 1) vr_161_38 rfl rfl ?_
          show zL zrx zi _ 161 39 [(1, _), (0, _)] [] _ _ _
          refine zSaload (m := 1) (k := 0) vr_161_39 rfl rfl rfl ?_
          refine zScstV (v := .ref 1) vr_161_40 rfl rfl ?_
          refine zLput vr_161_42 rfl (fun p2285 k2285 e2285 t2285 g2285 => ?_)
          cases e2285
          have qw : QWr T L s b cnt k2271 h2281 k2285 := ⟨rd2281, g2285⟩
          obtain ⟨a2, bd2, w1, w2, w3⟩ := qw.res hl0
          have hS3 := qw.stc
          have hs3 := (qw.old 225 2 (by omega) (by omega)).trans hs0
          have hL3 := (qw.old 225 1 (by omega) (by omega)).trans hL0
          have hn3 := (qw.oldT el el0).2.trans ((t0.2.2.2 el).trans hn)
          have tE3 : ∃ t, gT k2285 el = some t ∧ 93 ≤ t := by
            rw [(qw.oldT el el0).1, t0.2.2.1]
            exact tE
          refine zSaload (m := 1) (k := 0) vr_161_45 rfl rfl rfl ?_
          refine zLget vr_161_46 rfl (fun p2287 w2287 e2287 t2287 g2287 => ?_)
          cases e2287
          first | (rw [w2] at g2287; cases g2287) | (rw [(st_213_9 hS3)] at g2287; cases g2287) | skip
          refine zSb1 (f := fun x => decide (x = 0)) (off := 5) (t := 54) vr_161_49 rfl rfl rfl (fun x2288 e2288 q2288 => ?_) (fun x2288 e2288 q2288 => ?_)
          · cases e2288
            have c2288 := of_decide_eq_true q2288
            refine zSaload (m := 1) (k := 0) vr_161_54 rfl rfl rfl ?_
            refine zLget vr_161_55 rfl (fun p2290 w2290 e2290 t2290 g2290 => ?_)
            cases e2290
            first | (rw [w2] at g2290; cases g2290) | (rw [(st_213_9 hS3)] at g2290; cases g2290) | skip
            refine zSaload (m := 1) (k := 1) vr_161_58 rfl rfl rfl ?_
            refine zScall vr_161_59 rfl rfl rfl (fun m2292 _ => C_add _ _ _ _ _ hL3 hs3 hn3 hl2 tE3) (fun v2292 h2292 u2292 q2292 => ?_) (fun E2292 h2292 u2292 q2292 => ?_)
            · obtain ⟨z2292, ad2292⟩ := q2292
              cases z2292
              show zL zrx zi _ 161 64 [(1, _), (0, _)] [_] _ _ _
              refine zSpop vr_161_64 rfl ?_
              obtain ⟨ad1, ad2, ad3, el2, ad4, ad5, ad6, ad7, ad8, ad9, ad10⟩ := id ad2292
              have f9 : gF h2292 213 9 = some (.ref 225) := (ad9 213 (by rw [qw.len]; omega) (by omega) (fun z => h213 z.symm) 9).trans (st_213_9 hS3)
              refine zSaload (m := 1) (k := 0) vr_161_65 rfl rfl rfl ?_
              refine zLget vr_161_66 rfl (fun p2295 w2295 e2295 t2295 g2295 => ?_)
              cases e2295
              first | (rw [f9] at g2295; cases g2295) | skip
              refine zScall vr_161_69 rfl rfl rfl (fun m2296 _ => C_lsize _ _ _ _ ad5) (fun v2296 h2296 u2296 q2296 => ?_) (fun E2296 h2296 u2296 q2296 => ?_)
              · obtain ⟨eh2296, z2296⟩ := q2296
                replace eh2296 := eh2296.symm
                subst eh2296
                cases z2296
                show zL zrx zi _ 161 74 [(1, _), (0, _)] [_] _ _ _
                refine zSp0 (pc' := 75) (st' := .int (1) :: _) vr_161_74 rfl rfl ?_
                refine zS2 (f := fun x y => .int (x - y)) vr_161_75 rfl rfl (fun x2298 y2298 e2298 f2298 => ?_)
                cases e2298
                cases f2298
                refine zLiret vr_161_76 rfl (fun x2299 e2299 => ?_)
                cases e2299
                rcases w3 with ⟨z, -⟩ | ⟨-, p, F, e, az⟩
                · have y := c2288
                  rw [z] at y
                  exact absurd y (by decide)
                · exact ⟨_, _, rfl, t0, Or.inr ⟨l24, _, _, qw, Or.inr ⟨p, F, e, az, ad2292, add1s⟩⟩⟩
              · obtain ⟨-, z⟩ := q2296
                cases z
            · obtain ⟨z, -⟩ := q2292
              cases z
          · cases e2288
            have c2288 := ndc q2288
            refine zSp0 (pc' := 53) (st' := .int (-1) :: _) vr_161_52 rfl rfl ?_
            refine zLiret vr_161_53 rfl (fun x2301 e2301 => ?_)
            cases e2301
            rcases w3 with ⟨-, e⟩ | ⟨z, -⟩
            · exact ⟨_, _, rfl, t0, Or.inr ⟨l24, _, _, qw, Or.inl ⟨e, rfl, rfl⟩⟩⟩
            · exact absurd z c2288
        · obtain ⟨z, -⟩ := q2281
          cases z
      · obtain ⟨-, z⟩ := q2280
        cases z
    · cases e2276
      cases f2276
      have c2276 := ndc q2276
      refine zSaload (m := 1) (k := 0) vr_161_19 rfl rfl rfl ?_
      refine zSp0 (pc' := 21) (st' := .int (1) :: _) vr_161_20 rfl rfl ?_
      refine zScall vr_161_21 rfl rfl rfl (fun m2304 _ => C_no _ _ _ _ _) (fun v2304 h2304 u2304 q2304 => ?_) (fun E2304 h2304 u2304 q2304 => ?_)
      · obtain ⟨gn2304, z2304⟩ := q2304
        cases z2304
        show zL zrx zi _ 161 24 [(0, _)] [_] _ _ _
        refine zLiret vr_161_24 rfl (fun x2305 e2305 => ?_)
        cases e2305
        exact ⟨_, _, rfl, t0, Or.inl ⟨Decidable.not_not.mp c2276, gn2304⟩⟩
      · obtain ⟨-, z⟩ := q2304
        cases z
  · obtain ⟨-, z⟩ := q2274
    cases z
abbrev Q_mamend (T : Nat → Int32) (L s b el : Nat) (cnt : Int32) (x : Int32) (h : List zC) : zK := fun o h2 _ => ∃ (y : Int32) (h0 : List zC), o = .inl (some (.int y)) ∧ hPut h h0 213 0 (.int 0) ∧ ((iN cnt.toInt x ∧ ∃ A : Nat, gF h el x.toNatClampNeg = some (.ref A) ∧ ((¬ iv h A 9 = 0 ∧ hPut h0 h2 213 0 (.int 2)) ∨ (iv h A 9 = 0 ∧ ∃ h1 h3 : List zC, QWr T L s b x h0 h1 h3 ∧ ((rd0 T L x Fz = none ∧ y = 0 ∧ h2 = h3) ∨ (∃ (p : Nat) (F : Nat → Int32), rd0 T L x Fz = some (p, F) ∧ AZ h0.length (h0.length + 1) (h0.length + 2) h3 F ∧ hPut h3 h2 el x.toNatClampNeg (.ref h0.length) ∧ y = 1))))) ∨ (¬ iN cnt.toInt x ∧ hPut h0 h2 213 0 (.int 1)))
theorem C_mamend (n : Nat) (x : Int32) (h : List zC) (u : Nat) {T : Nat → Int32} {L s b el l : Nat} {bd cnt : Int32} (hS : Stc h) (sb : SB T L s b h) (q1 : gF h 213 10 = some (.ref s)) (q2 : gF h 213 17 = some (.int bd)) (q3 : bd = 0 ∨ bd = 1) (hL : gF h 225 1 = some (.ref el)) (hs : gF h 225 2 = some (.int cnt)) (hn : gN h el = some l) (hl2 : l < 2147483648) (tE : ∃ t, gT h el = some t ∧ 93 ≤ t) (h0c : 0 ≤ cnt.toInt) (h213 : ¬ el = 213) (hA : ∀ k, k < cnt.toNatClampNeg → ∃ A : Nat, gF h el k = some (.ref A) ∧ 239 ≤ A) : zL zrx zi n 162 0 [(0, .ref 213), (1, .int x)] [] h u (Q_mamend T L s b el cnt x h) := by
  refine zSaload (m := 1) (k := 0) vr_162_0 rfl rfl rfl ?_
  refine zSp0 (pc' := 2) (st' := .int (0) :: _) vr_162_1 rfl rfl ?_
  refine zLput vr_162_2 rfl (fun p2308 k2308 e2308 t2308 g2308 => ?_)
  cases e2308
  have t0 := g2308
  have hS0 := hS.thr t0
  have f0 : ∀ q k, ¬ (q = 213 ∧ k = 0) → gF k2308 q k = gF h q k := fun q k z => by rw [t0.2.1, if_neg z]
  have hs0 := (f0 225 2 (by omega)).trans hs
  have hL0 := (f0 225 1 (by omega)).trans hL
  have sb0 := sb.same (fun x k n => f0 x k (fun z => n z.1)) (t0.2.2.2 b)
  have q10 := (f0 213 10 (by omega)).trans q1
  have q20 := (f0 213 17 (by omega)).trans q2
  have hl0 : 239 ≤ k2308.length := hS0.1
  have el0 : el < k2308.length := by
    rw [t0.1]
    exact gN_lt hn
  refine zSaload (m := 1) (k := 0) vr_162_5 rfl rfl rfl ?_
  refine zSiload (m := 1) (k := 1) vr_162_6 rfl rfl rfl (fun x2310 e2310 => ?_)
  cases e2310
  refine zScall vr_162_7 rfl rfl rfl (fun m2311 _ => C_isA _ _ _ _ hS0 hs0) (fun v2311 h2311 u2311 q2311 => ?_) (fun E2311 h2311 u2311 q2311 => ?_)
  · obtain ⟨eh2311, z2311⟩ := q2311
    replace eh2311 := eh2311.symm
    subst eh2311
    cases z2311
    show zL zrx zi _ 162 10 [(0, _), (1, _)] [_] _ _ _
    refine zSb1 (f := fun x => decide (¬ x = 0)) (off := 17) (t := 27) vr_162_10 rfl rfl rfl (fun x2312 e2312 q2312 => ?_) (fun x2312 e2312 q2312 => ?_)
    · cases e2312
      have c2312 := of_decide_eq_true q2312
      have ra := isr_y h0c c2312
      obtain ⟨A, hA1, lA⟩ := hA x.toNatClampNeg (by
        obtain ⟨a1, a2⟩ := ra
        show x.toInt.toNat < cnt.toInt.toNat
        omega)
      have hq0 : gF k2308 el x.toNatClampNeg = some (.ref A) := (f0 el _ (fun z => h213 z.1)).trans hA1
      have i9 : iv k2308 A 9 = iv h A 9 := iv_eq (f0 A 9 (by omega))
      refine zSaload (m := 1) (k := 0) vr_162_27 rfl rfl rfl ?_
      refine zSiload (m := 1) (k := 1) vr_162_28 rfl rfl rfl (fun x2314 e2314 => ?_)
      cases e2314
      refine zScall vr_162_29 rfl rfl rfl (fun m2315 _ => C_isB _ _ _ _ hS0 hL0 hs0 hq0) (fun v2315 h2315 u2315 q2315 => ?_) (fun E2315 h2315 u2315 q2315 => ?_)
      · obtain ⟨eh2315, z2315⟩ := q2315
        replace eh2315 := eh2315.symm
        subst eh2315
        cases z2315
        show zL zrx zi _ 162 32 [(0, _), (1, _)] [_] _ _ _
        refine zSb1 (f := fun x => decide (¬ x = 0)) (off := 17) (t := 49) vr_162_32 rfl rfl rfl (fun x2316 e2316 q2316 => ?_) (fun x2316 e2316 q2316 => ?_)
        · cases e2316
          have c2316 := of_decide_eq_true q2316
          refine zSaload (m := 1) (k := 0) vr_162_49 rfl rfl rfl ?_
          refine zSiload (m := 1) (k := 1) vr_162_50 rfl rfl rfl (fun x2318 e2318 => ?_)
          cases e2318
          refine zScall vr_162_51 rfl rfl rfl (fun m2319 _ => C_mread _ _ _ _ hS0 sb0 q10 q20 q3) (fun v2319 h2319 u2319 q2319 => ?_) (fun E2319 h2319 u2319 q2319 => ?_)
          · obtain ⟨z2319, rd2319⟩ := q2319
            cases z2319
            show zL zrx zi _ 162 54 [(0, _), (1, _)] [_] _ _ _
            refine zSastore (m := 1) (k := 2) vr_162_54 rfl rfl ?_
            show zL zrx zi _ 162 55 [(2, _), (0, _), (1, _)] [] _ _ _
            refine zSaload (m := 1) (k := 0) vr_162_55 rfl rfl rfl ?_
            refine zScstV (v := .ref 1) vr_162_56 rfl rfl ?_
            refine zLput vr_162_58 rfl (fun p2323 k2323 e2323 t2323 g2323 => ?_)
            cases e2323
            have qw : QWr T L s b x k2308 h2319 k2323 := ⟨rd2319, g2323⟩
            obtain ⟨a2, bd2, w1, w2, w3⟩ := qw.res hl0
            have hS3 := qw.stc
            have hs3 := (qw.old 225 2 (by omega) (by omega)).trans hs0
            have hL3 := (qw.old 225 1 (by omega) (by omega)).trans hL0
            have hn3 := (qw.oldT el el0).2.trans ((t0.2.2.2 el).trans hn)
            have tE3 : ∃ t, gT k2323 el = some t ∧ 93 ≤ t := by
              rw [(qw.oldT el el0).1, t0.2.2.1]
              exact tE
            refine zSaload (m := 1) (k := 0) vr_162_61 rfl rfl rfl ?_
            refine zLget vr_162_62 rfl (fun p2325 w2325 e2325 t2325 g2325 => ?_)
            cases e2325
            first | (rw [w2] at g2325; cases g2325) | (rw [(st_213_9 hS3)] at g2325; cases g2325) | skip
            refine zSb1 (f := fun x => decide (x = 0)) (off := 5) (t := 70) vr_162_65 rfl rfl rfl (fun x2326 e2326 q2326 => ?_) (fun x2326 e2326 q2326 => ?_)
            · cases e2326
              have c2326 := of_decide_eq_true q2326
              refine zSaload (m := 1) (k := 0) vr_162_70 rfl rfl rfl ?_
              refine zLget vr_162_71 rfl (fun p2328 w2328 e2328 t2328 g2328 => ?_)
              cases e2328
              first | (rw [w2] at g2328; cases g2328) | (rw [(st_213_9 hS3)] at g2328; cases g2328) | skip
              refine zSiload (m := 1) (k := 1) vr_162_74 rfl rfl rfl (fun x2329 e2329 => ?_)
              cases e2329
              refine zSaload (m := 1) (k := 2) vr_162_75 rfl rfl rfl ?_
              refine zScall vr_162_76 rfl rfl rfl (fun m2331 _ => C_lset _ _ _ _ _ _ hL3 hs3) (fun v2331 h2331 u2331 q2331 => ?_) (fun E2331 h2331 u2331 q2331 => ?_)
              · obtain ⟨w2331, z2331, st2331⟩ := q2331
                cases z2331
                show zL zrx zi _ 162 81 [(2, _), (0, _), (1, _)] [_] _ _ _
                refine zSpop vr_162_81 rfl ?_
                refine zSp0 (pc' := 83) (st' := .int (1) :: _) vr_162_82 rfl rfl ?_
                refine zLiret vr_162_83 rfl (fun x2334 e2334 => ?_)
                cases e2334
                have e9 : iv h A 9 = 0 := by
                  have y := c2316
                  rw [i9] at y
                  by_cases z : iv h A 9 = 0
                  · exact z
                  · rw [if_neg z] at y
                    exact absurd rfl y
                rcases w3 with ⟨z, -⟩ | ⟨-, p, F, e, az⟩
                · have y := c2326
                  rw [z] at y
                  exact absurd y (by decide)
                · exact ⟨_, _, rfl, t0, Or.inl ⟨ra, A, hA1, Or.inr ⟨e9, _, _, qw, Or.inr ⟨p, F, e, az, st2331, rfl⟩⟩⟩⟩
              · obtain ⟨_, z, -⟩ := q2331
                cases z
            · cases e2326
              have c2326 := ndc q2326
              refine zSp0 (pc' := 69) (st' := .int (0) :: _) vr_162_68 rfl rfl ?_
              refine zLiret vr_162_69 rfl (fun x2336 e2336 => ?_)
              cases e2336
              have e9 : iv h A 9 = 0 := by
                have y := c2316
                rw [i9] at y
                by_cases z : iv h A 9 = 0
                · exact z
                · rw [if_neg z] at y
                  exact absurd rfl y
              rcases w3 with ⟨-, e⟩ | ⟨z, -⟩
              · exact ⟨_, _, rfl, t0, Or.inl ⟨ra, A, hA1, Or.inr ⟨e9, _, _, qw, Or.inl ⟨e, rfl, rfl⟩⟩⟩⟩
              · exact absurd z c2326
          · obtain ⟨z, -⟩ := q2319
            cases z
        · cases e2316
          have c2316 := ndc q2316
          refine zSaload (m := 1) (k := 0) vr_162_35 rfl rfl rfl ?_
          refine zSp0 (pc' := 37) (st' := .int (2) :: _) vr_162_36 rfl rfl ?_
          refine zScall vr_162_37 rfl rfl rfl (fun m2339 _ => C_no _ _ _ _ _) (fun v2339 h2339 u2339 q2339 => ?_) (fun E2339 h2339 u2339 q2339 => ?_)
          · obtain ⟨gn2339, z2339⟩ := q2339
            cases z2339
            show zL zrx zi _ 162 40 [(0, _), (1, _)] [_] _ _ _
            refine zSb1 (f := fun x => decide (x ≤ 0)) (off := 7) (t := 47) vr_162_40 rfl rfl rfl (fun x2340 e2340 q2340 => ?_) (fun x2340 e2340 q2340 => ?_)
            · cases e2340
              have c2340 := of_decide_eq_true q2340
              refine zSp0 (pc' := 48) (st' := .int (0) :: _) vr_162_47 rfl rfl ?_
              refine zLiret vr_162_48 rfl (fun x2342 e2342 => ?_)
              cases e2342
              refine ⟨_, _, rfl, t0, Or.inl ⟨ra, A, hA1, Or.inl ⟨fun z => ?_, gn2339⟩⟩⟩
              have y := Decidable.not_not.mp c2316
              rw [i9, if_pos z] at y
              exact absurd y (by decide)
            · cases e2340
              have c2340 := ndc q2340
              exact absurd c2340 (by decide)
          · obtain ⟨-, z⟩ := q2339
            cases z
      · obtain ⟨-, z⟩ := q2315
        cases z
    · cases e2312
      have c2312 := ndc q2312
      refine zSaload (m := 1) (k := 0) vr_162_13 rfl rfl rfl ?_
      refine zSp0 (pc' := 15) (st' := .int (1) :: _) vr_162_14 rfl rfl ?_
      refine zScall vr_162_15 rfl rfl rfl (fun m2345 _ => C_no _ _ _ _ _) (fun v2345 h2345 u2345 q2345 => ?_) (fun E2345 h2345 u2345 q2345 => ?_)
      · obtain ⟨gn2345, z2345⟩ := q2345
        cases z2345
        show zL zrx zi _ 162 18 [(0, _), (1, _)] [_] _ _ _
        refine zSb1 (f := fun x => decide (x ≤ 0)) (off := 7) (t := 25) vr_162_18 rfl rfl rfl (fun x2346 e2346 q2346 => ?_) (fun x2346 e2346 q2346 => ?_)
        · cases e2346
          have c2346 := of_decide_eq_true q2346
          refine zSp0 (pc' := 26) (st' := .int (0) :: _) vr_162_25 rfl rfl ?_
          refine zLiret vr_162_26 rfl (fun x2348 e2348 => ?_)
          cases e2348
          exact ⟨_, _, rfl, t0, Or.inr ⟨fun z => isr_n h0c (Decidable.not_not.mp c2312) z, gn2345⟩⟩
        · cases e2346
          have c2346 := ndc q2346
          exact absurd c2346 (by decide)
      · obtain ⟨-, z⟩ := q2345
        cases z
  · obtain ⟨-, z⟩ := q2311
    cases z

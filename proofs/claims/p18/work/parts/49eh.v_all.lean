/-! ===== values: all, 5 ===== -/
theorem vr_63_0 : zrx 63 0 = some (.iload_n 1, 0, 0) := by decide +kernel
theorem vr_63_1 : zrx 63 1 = some (.bipush 32, 0, 0) := by decide +kernel
theorem vr_63_3 : zrx 63 3 = some (.bipush 126, 0, 0) := by decide +kernel
theorem vr_63_5 : zrx 63 5 = some (.invokestatic 72, 97, 0) := by decide +kernel
theorem vr_63_8 : zrx 63 8 = some (.aload_n 0, 0, 0) := by decide +kernel
theorem vr_63_9 : zrx 63 9 = some (.getfield 56, 13, 12) := by decide +kernel
theorem vr_63_12 : zrx 63 12 = some (.getfield 159, 8, 1) := by decide +kernel
theorem vr_63_15 : zrx 63 15 = some (.bipush 60, 0, 0) := by decide +kernel
theorem vr_63_17 : zrx 63 17 = some (.if_icmp .ge 7, 0, 0) := by decide +kernel
theorem vr_63_20 : zrx 63 20 = some (.iconst 1, 0, 0) := by decide +kernel
theorem vr_63_21 : zrx 63 21 = some (.goto 4, 0, 0) := by decide +kernel
theorem vr_63_24 : zrx 63 24 = some (.iconst 0, 0, 0) := by decide +kernel
theorem vr_63_25 : zrx 63 25 = some (.invokestatic 83, 98, 0) := by decide +kernel
theorem vr_63_28 : zrx 63 28 = some (.aload_n 0, 0, 0) := by decide +kernel
theorem vr_63_29 : zrx 63 29 = some (.getfield 56, 13, 12) := by decide +kernel
theorem vr_63_32 : zrx 63 32 = some (.getfield 162, 8, 0) := by decide +kernel
theorem vr_63_35 : zrx 63 35 = some (.aload_n 0, 0, 0) := by decide +kernel
theorem vr_63_36 : zrx 63 36 = some (.getfield 56, 13, 12) := by decide +kernel
theorem vr_63_39 : zrx 63 39 = some (.getfield 159, 8, 1) := by decide +kernel
theorem vr_63_42 : zrx 63 42 = some (.iload_n 1, 0, 0) := by decide +kernel
theorem vr_63_43 : zrx 63 43 = some (.iastore, 0, 0) := by decide +kernel
theorem vr_63_44 : zrx 63 44 = some (.aload_n 0, 0, 0) := by decide +kernel
theorem vr_63_45 : zrx 63 45 = some (.getfield 56, 13, 12) := by decide +kernel
theorem vr_63_48 : zrx 63 48 = some (.dup, 0, 0) := by decide +kernel
theorem vr_63_49 : zrx 63 49 = some (.getfield 159, 8, 1) := by decide +kernel
theorem vr_63_52 : zrx 63 52 = some (.iconst 1, 0, 0) := by decide +kernel
theorem vr_63_53 : zrx 63 53 = some (.iadd, 0, 0) := by decide +kernel
theorem vr_63_54 : zrx 63 54 = some (.putfield 159, 8, 1) := by decide +kernel
theorem vr_63_57 : zrx 63 57 = some (.aload_n 0, 0, 0) := by decide +kernel
theorem vr_63_58 : zrx 63 58 = some (.getfield 56, 13, 12) := by decide +kernel
theorem vr_63_61 : zrx 63 61 = some (.getfield 159, 8, 1) := by decide +kernel
theorem vr_63_64 : zrx 63 64 = some (.ireturn, 0, 0) := by decide +kernel
theorem vr_64_0 : zrx 64 0 = some (.aload_n 0, 0, 0) := by decide +kernel
theorem vr_64_1 : zrx 64 1 = some (.getfield 42, 13, 10) := by decide +kernel
theorem vr_64_4 : zrx 64 4 = some (.getfield 165, 5, 2) := by decide +kernel
theorem vr_64_7 : zrx 64 7 = some (.bipush 24, 0, 0) := by decide +kernel
theorem vr_64_9 : zrx 64 9 = some (.if_icmp .ge 7, 0, 0) := by decide +kernel
theorem vr_64_12 : zrx 64 12 = some (.iconst 1, 0, 0) := by decide +kernel
theorem vr_64_13 : zrx 64 13 = some (.goto 4, 0, 0) := by decide +kernel
theorem vr_64_16 : zrx 64 16 = some (.iconst 0, 0, 0) := by decide +kernel
theorem vr_64_17 : zrx 64 17 = some (.invokestatic 83, 98, 0) := by decide +kernel
theorem vr_64_20 : zrx 64 20 = some (.aload_n 0, 0, 0) := by decide +kernel
theorem vr_64_21 : zrx 64 21 = some (.aload_n 0, 0, 0) := by decide +kernel
theorem vr_64_22 : zrx 64 22 = some (.getfield 42, 13, 10) := by decide +kernel
theorem vr_64_25 : zrx 64 25 = some (.getfield 165, 5, 2) := by decide +kernel
theorem vr_64_28 : zrx 64 28 = some (.invokevirtual 166, 100, 140) := by decide +kernel
theorem vr_64_31 : zrx 64 31 = some (.ifCond .eq 15, 0, 0) := by decide +kernel
theorem vr_64_34 : zrx 64 34 = some (.aload_n 0, 0, 0) := by decide +kernel
theorem vr_64_35 : zrx 64 35 = some (.getfield 42, 13, 10) := by decide +kernel
theorem vr_64_38 : zrx 64 38 = some (.getfield 165, 5, 2) := by decide +kernel
theorem vr_64_41 : zrx 64 41 = some (.iconst 1, 0, 0) := by decide +kernel
theorem vr_64_42 : zrx 64 42 = some (.isub, 0, 0) := by decide +kernel
theorem vr_64_43 : zrx 64 43 = some (.goto 4, 0, 0) := by decide +kernel
theorem vr_64_46 : zrx 64 46 = some (.iconst (-1), 0, 0) := by decide +kernel
theorem vr_64_47 : zrx 64 47 = some (.ireturn, 0, 0) := by decide +kernel
theorem vr_65_0 : zrx 65 0 = some (.iload_n 1, 0, 0) := by decide +kernel
theorem vr_65_1 : zrx 65 1 = some (.aload_n 0, 0, 0) := by decide +kernel
theorem vr_65_2 : zrx 65 2 = some (.getfield 42, 13, 10) := by decide +kernel
theorem vr_65_5 : zrx 65 5 = some (.getfield 165, 5, 2) := by decide +kernel
theorem vr_65_8 : zrx 65 8 = some (.invokestatic 68, 96, 0) := by decide +kernel
theorem vr_65_11 : zrx 65 11 = some (.aload_n 0, 0, 0) := by decide +kernel
theorem vr_65_12 : zrx 65 12 = some (.getfield 42, 13, 10) := by decide +kernel
theorem vr_65_15 : zrx 65 15 = some (.getfield 170, 5, 0) := by decide +kernel
theorem vr_65_18 : zrx 65 18 = some (.iload_n 1, 0, 0) := by decide +kernel
theorem vr_65_19 : zrx 65 19 = some (.aaload, 0, 0) := by decide +kernel
theorem vr_65_20 : zrx 65 20 = some (.getfield 174, 3, 2) := by decide +kernel
theorem vr_65_23 : zrx 65 23 = some (.ifCond .ne 7, 0, 0) := by decide +kernel
theorem vr_65_26 : zrx 65 26 = some (.iconst 1, 0, 0) := by decide +kernel
theorem vr_65_27 : zrx 65 27 = some (.goto 4, 0, 0) := by decide +kernel
theorem vr_65_30 : zrx 65 30 = some (.iconst 0, 0, 0) := by decide +kernel
theorem vr_65_31 : zrx 65 31 = some (.invokestatic 83, 98, 0) := by decide +kernel
theorem vr_65_34 : zrx 65 34 = some (.aload_n 0, 0, 0) := by decide +kernel
theorem vr_65_35 : zrx 65 35 = some (.iload_n 1, 0, 0) := by decide +kernel
theorem vr_65_36 : zrx 65 36 = some (.invokevirtual 166, 100, 140) := by decide +kernel
theorem vr_65_39 : zrx 65 39 = some (.ireturn, 0, 0) := by decide +kernel
theorem vr_158_0 : zrx 158 0 = some (.iload_n 1, 0, 0) := by decide +kernel
theorem vr_158_1 : zrx 158 1 = some (.iconst 0, 0, 0) := by decide +kernel
theorem vr_158_2 : zrx 158 2 = some (.aload_n 0, 0, 0) := by decide +kernel
theorem vr_158_3 : zrx 158 3 = some (.getfield 31, 18, 9) := by decide +kernel
theorem vr_158_6 : zrx 158 6 = some (.invokeinterface 59 1, 304, 35) := by decide +kernel
theorem vr_158_11 : zrx 158 11 = some (.iconst 1, 0, 0) := by decide +kernel
theorem vr_158_12 : zrx 158 12 = some (.isub, 0, 0) := by decide +kernel
theorem vr_158_13 : zrx 158 13 = some (.invokestatic 209, 132, 0) := by decide +kernel
theorem vr_158_16 : zrx 158 16 = some (.ireturn, 0, 0) := by decide +kernel
theorem vr_159_0 : zrx 159 0 = some (.aload_n 0, 0, 0) := by decide +kernel
theorem vr_159_1 : zrx 159 1 = some (.getfield 31, 18, 9) := by decide +kernel
theorem vr_159_4 : zrx 159 4 = some (.iload_n 1, 0, 0) := by decide +kernel
theorem vr_159_5 : zrx 159 5 = some (.invokeinterface 65 2, 306, 35) := by decide +kernel
theorem vr_159_10 : zrx 159 10 = some (.checkcast 108, 15, 0) := by decide +kernel
theorem vr_159_13 : zrx 159 13 = some (.getfield 235, 15, 9) := by decide +kernel
theorem vr_159_16 : zrx 159 16 = some (.ifCond .ne 7, 0, 0) := by decide +kernel
theorem vr_159_19 : zrx 159 19 = some (.iconst 1, 0, 0) := by decide +kernel
theorem vr_159_20 : zrx 159 20 = some (.goto 4, 0, 0) := by decide +kernel
theorem vr_159_23 : zrx 159 23 = some (.iconst 0, 0, 0) := by decide +kernel
theorem vr_159_24 : zrx 159 24 = some (.ireturn, 0, 0) := by decide +kernel
theorem vr_161_0 : zrx 161 0 = some (.aload_n 0, 0, 0) := by decide +kernel
theorem vr_161_1 : zrx 161 1 = some (.iconst 0, 0, 0) := by decide +kernel
theorem vr_161_2 : zrx 161 2 = some (.putfield 55, 18, 0) := by decide +kernel
theorem vr_161_5 : zrx 161 5 = some (.aload_n 0, 0, 0) := by decide +kernel
theorem vr_161_6 : zrx 161 6 = some (.getfield 31, 18, 9) := by decide +kernel
theorem vr_161_9 : zrx 161 9 = some (.invokeinterface 59 1, 304, 35) := by decide +kernel
theorem vr_161_14 : zrx 161 14 = some (.bipush 24, 0, 0) := by decide +kernel
theorem vr_161_16 : zrx 161 16 = some (.if_icmp .ne 9, 0, 0) := by decide +kernel
theorem vr_161_19 : zrx 161 19 = some (.aload_n 0, 0, 0) := by decide +kernel
theorem vr_161_20 : zrx 161 20 = some (.iconst 1, 0, 0) := by decide +kernel
theorem vr_161_21 : zrx 161 21 = some (.invokevirtual 212, 131, 190) := by decide +kernel
theorem vr_161_24 : zrx 161 24 = some (.ireturn, 0, 0) := by decide +kernel
theorem vr_161_25 : zrx 161 25 = some (.aload_n 0, 0, 0) := by decide +kernel
theorem vr_161_26 : zrx 161 26 = some (.aload_n 0, 0, 0) := by decide +kernel
theorem vr_161_27 : zrx 161 27 = some (.getfield 31, 18, 9) := by decide +kernel
theorem vr_161_30 : zrx 161 30 = some (.invokeinterface 59 1, 304, 35) := by decide +kernel
theorem vr_161_35 : zrx 161 35 = some (.invokevirtual 252, 148, 190) := by decide +kernel
theorem vr_161_38 : zrx 161 38 = some (.astore_n 1, 0, 0) := by decide +kernel
theorem vr_161_39 : zrx 161 39 = some (.aload_n 0, 0, 0) := by decide +kernel
theorem vr_161_40 : zrx 161 40 = some (.ldc 34, 1, 3) := by decide +kernel
theorem vr_161_42 : zrx 161 42 = some (.putfield 36, 18, 10) := by decide +kernel
theorem vr_161_45 : zrx 161 45 = some (.aload_n 0, 0, 0) := by decide +kernel
theorem vr_161_46 : zrx 161 46 = some (.getfield 164, 18, 17) := by decide +kernel
theorem vr_161_49 : zrx 161 49 = some (.ifCond .eq 5, 0, 0) := by decide +kernel
theorem vr_161_52 : zrx 161 52 = some (.iconst (-1), 0, 0) := by decide +kernel
theorem vr_161_53 : zrx 161 53 = some (.ireturn, 0, 0) := by decide +kernel
theorem vr_161_54 : zrx 161 54 = some (.aload_n 0, 0, 0) := by decide +kernel
theorem vr_161_55 : zrx 161 55 = some (.getfield 31, 18, 9) := by decide +kernel
theorem vr_161_58 : zrx 161 58 = some (.aload_n 1, 0, 0) := by decide +kernel
theorem vr_161_59 : zrx 161 59 = some (.invokeinterface 219 2, 309, 35) := by decide +kernel
theorem vr_161_64 : zrx 161 64 = some (.pop, 0, 0) := by decide +kernel
theorem vr_161_65 : zrx 161 65 = some (.aload_n 0, 0, 0) := by decide +kernel
theorem vr_161_66 : zrx 161 66 = some (.getfield 31, 18, 9) := by decide +kernel
theorem vr_161_69 : zrx 161 69 = some (.invokeinterface 59 1, 304, 35) := by decide +kernel
theorem vr_161_74 : zrx 161 74 = some (.iconst 1, 0, 0) := by decide +kernel
theorem vr_161_75 : zrx 161 75 = some (.isub, 0, 0) := by decide +kernel
theorem vr_161_76 : zrx 161 76 = some (.ireturn, 0, 0) := by decide +kernel
theorem vr_162_0 : zrx 162 0 = some (.aload_n 0, 0, 0) := by decide +kernel
theorem vr_162_1 : zrx 162 1 = some (.iconst 0, 0, 0) := by decide +kernel
theorem vr_162_2 : zrx 162 2 = some (.putfield 55, 18, 0) := by decide +kernel
theorem vr_162_5 : zrx 162 5 = some (.aload_n 0, 0, 0) := by decide +kernel
theorem vr_162_6 : zrx 162 6 = some (.iload_n 1, 0, 0) := by decide +kernel
theorem vr_162_7 : zrx 162 7 = some (.invokevirtual 256, 158, 190) := by decide +kernel
theorem vr_162_10 : zrx 162 10 = some (.ifCond .ne 17, 0, 0) := by decide +kernel
theorem vr_162_13 : zrx 162 13 = some (.aload_n 0, 0, 0) := by decide +kernel
theorem vr_162_14 : zrx 162 14 = some (.iconst 1, 0, 0) := by decide +kernel
theorem vr_162_15 : zrx 162 15 = some (.invokevirtual 212, 131, 190) := by decide +kernel
theorem vr_162_18 : zrx 162 18 = some (.ifCond .le 7, 0, 0) := by decide +kernel
theorem vr_162_25 : zrx 162 25 = some (.iconst 0, 0, 0) := by decide +kernel
theorem vr_162_26 : zrx 162 26 = some (.ireturn, 0, 0) := by decide +kernel
theorem vr_162_27 : zrx 162 27 = some (.aload_n 0, 0, 0) := by decide +kernel
theorem vr_162_28 : zrx 162 28 = some (.iload_n 1, 0, 0) := by decide +kernel
theorem vr_162_29 : zrx 162 29 = some (.invokevirtual 259, 159, 190) := by decide +kernel
theorem vr_162_32 : zrx 162 32 = some (.ifCond .ne 17, 0, 0) := by decide +kernel
theorem vr_162_35 : zrx 162 35 = some (.aload_n 0, 0, 0) := by decide +kernel
theorem vr_162_36 : zrx 162 36 = some (.iconst 2, 0, 0) := by decide +kernel
theorem vr_162_37 : zrx 162 37 = some (.invokevirtual 212, 131, 190) := by decide +kernel
theorem vr_162_40 : zrx 162 40 = some (.ifCond .le 7, 0, 0) := by decide +kernel
theorem vr_162_47 : zrx 162 47 = some (.iconst 0, 0, 0) := by decide +kernel
theorem vr_162_48 : zrx 162 48 = some (.ireturn, 0, 0) := by decide +kernel
theorem vr_162_49 : zrx 162 49 = some (.aload_n 0, 0, 0) := by decide +kernel
theorem vr_162_50 : zrx 162 50 = some (.iload_n 1, 0, 0) := by decide +kernel
theorem vr_162_51 : zrx 162 51 = some (.invokevirtual 252, 148, 190) := by decide +kernel
theorem vr_162_54 : zrx 162 54 = some (.astore_n 2, 0, 0) := by decide +kernel
theorem vr_162_55 : zrx 162 55 = some (.aload_n 0, 0, 0) := by decide +kernel
theorem vr_162_56 : zrx 162 56 = some (.ldc 34, 1, 3) := by decide +kernel
theorem vr_162_58 : zrx 162 58 = some (.putfield 36, 18, 10) := by decide +kernel
theorem vr_162_61 : zrx 162 61 = some (.aload_n 0, 0, 0) := by decide +kernel
theorem vr_162_62 : zrx 162 62 = some (.getfield 164, 18, 17) := by decide +kernel
theorem vr_162_65 : zrx 162 65 = some (.ifCond .eq 5, 0, 0) := by decide +kernel
theorem vr_162_68 : zrx 162 68 = some (.iconst 0, 0, 0) := by decide +kernel
theorem vr_162_69 : zrx 162 69 = some (.ireturn, 0, 0) := by decide +kernel
theorem vr_162_70 : zrx 162 70 = some (.aload_n 0, 0, 0) := by decide +kernel
theorem vr_162_71 : zrx 162 71 = some (.getfield 31, 18, 9) := by decide +kernel
theorem vr_162_74 : zrx 162 74 = some (.iload_n 1, 0, 0) := by decide +kernel
theorem vr_162_75 : zrx 162 75 = some (.aload_n 2, 0, 0) := by decide +kernel
theorem vr_162_76 : zrx 162 76 = some (.invokeinterface 262 3, 307, 35) := by decide +kernel
theorem vr_162_81 : zrx 162 81 = some (.pop, 0, 0) := by decide +kernel
theorem vr_162_82 : zrx 162 82 = some (.iconst 1, 0, 0) := by decide +kernel
theorem vr_162_83 : zrx 162 83 = some (.ireturn, 0, 0) := by decide +kernel
theorem vr_214_0 : zrx 214 0 = some (.aload_n 2, 0, 0) := by decide +kernel
theorem vr_214_1 : zrx 214 1 = some (.aload_n 0, 0, 0) := by decide +kernel
theorem vr_214_2 : zrx 214 2 = some (.iload_n 1, 0, 0) := by decide +kernel
theorem vr_214_3 : zrx 214 3 = some (.invokevirtual 42, 63, 140) := by decide +kernel
theorem vr_214_6 : zrx 214 6 = some (.i2l, 0, 0) := by decide +kernel
theorem vr_214_7 : zrx 214 7 = some (.putfield 13, 14, 1000) := by decide +kernel
theorem vr_214_10 : zrx 214 10 = some (.goto 9, 0, 0) := by decide +kernel
theorem vr_214_13 : zrx 214 13 = some (.astore_n 3, 0, 0) := by decide +kernel
theorem vr_214_14 : zrx 214 14 = some (.iconst 1, 0, 0) := by decide +kernel
theorem vr_214_15 : zrx 214 15 = some (.ireturn, 0, 0) := by decide +kernel
theorem vr_214_16 : zrx 214 16 = some (.astore_n 3, 0, 0) := by decide +kernel
theorem vr_214_17 : zrx 214 17 = some (.iconst 2, 0, 0) := by decide +kernel
theorem vr_214_18 : zrx 214 18 = some (.ireturn, 0, 0) := by decide +kernel
theorem vr_214_19 : zrx 214 19 = some (.iconst 0, 0, 0) := by decide +kernel
theorem vr_214_20 : zrx 214 20 = some (.ireturn, 0, 0) := by decide +kernel
theorem vr_215_0 : zrx 215 0 = some (.aload_n 1, 0, 0) := by decide +kernel
theorem vr_215_1 : zrx 215 1 = some (.aload_n 0, 0, 0) := by decide +kernel
theorem vr_215_2 : zrx 215 2 = some (.invokevirtual 46, 64, 140) := by decide +kernel
theorem vr_215_5 : zrx 215 5 = some (.i2l, 0, 0) := by decide +kernel
theorem vr_215_6 : zrx 215 6 = some (.putfield 13, 14, 1000) := by decide +kernel
theorem vr_215_9 : zrx 215 9 = some (.goto 6, 0, 0) := by decide +kernel
theorem vr_215_12 : zrx 215 12 = some (.astore_n 2, 0, 0) := by decide +kernel
theorem vr_215_13 : zrx 215 13 = some (.iconst 1, 0, 0) := by decide +kernel
theorem vr_215_14 : zrx 215 14 = some (.ireturn, 0, 0) := by decide +kernel
theorem vr_215_15 : zrx 215 15 = some (.iconst 0, 0, 0) := by decide +kernel
theorem vr_215_16 : zrx 215 16 = some (.ireturn, 0, 0) := by decide +kernel
theorem vr_216_0 : zrx 216 0 = some (.aload_n 2, 0, 0) := by decide +kernel
theorem vr_216_1 : zrx 216 1 = some (.aload_n 0, 0, 0) := by decide +kernel
theorem vr_216_2 : zrx 216 2 = some (.iload_n 1, 0, 0) := by decide +kernel
theorem vr_216_3 : zrx 216 3 = some (.invokevirtual 50, 65, 140) := by decide +kernel
theorem vr_216_6 : zrx 216 6 = some (.ifCond .eq 7, 0, 0) := by decide +kernel
theorem vr_216_9 : zrx 216 9 = some (.lconst 1, 0, 0) := by decide +kernel
theorem vr_216_10 : zrx 216 10 = some (.goto 4, 0, 0) := by decide +kernel
theorem vr_216_13 : zrx 216 13 = some (.lconst 0, 0, 0) := by decide +kernel
theorem vr_216_14 : zrx 216 14 = some (.putfield 13, 14, 1000) := by decide +kernel
theorem vr_216_17 : zrx 216 17 = some (.goto 9, 0, 0) := by decide +kernel
theorem vr_216_20 : zrx 216 20 = some (.astore_n 3, 0, 0) := by decide +kernel
theorem vr_216_21 : zrx 216 21 = some (.iconst 1, 0, 0) := by decide +kernel
theorem vr_216_22 : zrx 216 22 = some (.ireturn, 0, 0) := by decide +kernel
theorem vr_216_23 : zrx 216 23 = some (.astore_n 3, 0, 0) := by decide +kernel
theorem vr_216_24 : zrx 216 24 = some (.iconst 2, 0, 0) := by decide +kernel
theorem vr_216_25 : zrx 216 25 = some (.ireturn, 0, 0) := by decide +kernel
theorem vr_216_26 : zrx 216 26 = some (.iconst 0, 0, 0) := by decide +kernel
theorem vr_216_27 : zrx 216 27 = some (.ireturn, 0, 0) := by decide +kernel
theorem vr_307_0 : zrx 307 0 = some (.iload_n 1, 0, 0) := by decide +kernel
theorem vr_307_1 : zrx 307 1 = some (.aload_n 0, 0, 0) := by decide +kernel
theorem vr_307_2 : zrx 307 2 = some (.getfield 48, 2, 2) := by decide +kernel
theorem vr_307_5 : zrx 307 5 = some (.invokestatic 118, 316, 0) := by decide +kernel
theorem vr_307_8 : zrx 307 8 = some (.pop, 0, 0) := by decide +kernel
theorem vr_307_9 : zrx 307 9 = some (.aload_n 0, 0, 0) := by decide +kernel
theorem vr_307_10 : zrx 307 10 = some (.iload_n 1, 0, 0) := by decide +kernel
theorem vr_307_11 : zrx 307 11 = some (.invokevirtual 123, 305, 30) := by decide +kernel
theorem vr_307_14 : zrx 307 14 = some (.astore_n 3, 0, 0) := by decide +kernel
theorem vr_307_15 : zrx 307 15 = some (.aload_n 0, 0, 0) := by decide +kernel
theorem vr_307_16 : zrx 307 16 = some (.getfield 9, 2, 1) := by decide +kernel
theorem vr_307_19 : zrx 307 19 = some (.iload_n 1, 0, 0) := by decide +kernel
theorem vr_307_20 : zrx 307 20 = some (.aload_n 2, 0, 0) := by decide +kernel
theorem vr_307_21 : zrx 307 21 = some (.aastore, 0, 0) := by decide +kernel
theorem vr_307_22 : zrx 307 22 = some (.aload_n 3, 0, 0) := by decide +kernel
theorem vr_307_23 : zrx 307 23 = some (.areturn, 0, 0) := by decide +kernel
theorem vh_63_5_1 : zHit (zi 63) 5 1 = none := by decide +kernel
theorem vh_63_25_2 : zHit (zi 63) 25 2 = none := by decide +kernel
theorem vh_64_17_2 : zHit (zi 64) 17 2 = none := by decide +kernel
theorem vh_65_8_0 : zHit (zi 65) 8 0 = none := by decide +kernel
theorem vh_65_31_2 : zHit (zi 65) 31 2 = none := by decide +kernel
theorem vh_214_3_1 : (zHit (zi 214) 3 1).map (fun r => r.2.2.1) = some 13 := by decide +kernel
theorem vh_214_3_2 : (zHit (zi 214) 3 2).map (fun r => r.2.2.1) = some 16 := by decide +kernel
theorem vh_215_2_2 : (zHit (zi 215) 2 2).map (fun r => r.2.2.1) = some 12 := by decide +kernel
theorem vh_216_3_0 : (zHit (zi 216) 3 0).map (fun r => r.2.2.1) = some 20 := by decide +kernel
theorem vh_216_3_2 : (zHit (zi 216) 3 2).map (fun r => r.2.2.1) = some 23 := by decide +kernel
theorem C_feed (n : Nat) (c : Int32) (h : List zC) (u : Nat) {L : Nat} (hS : Stc h) (t1 : gF h 183 1 = some (.int (Int32.ofNat L))) (t2 : L ≤ 60) : zL zrx zi n 63 0 [(0, .ref 16), (1, .int c)] [] h u (fun o h2 _ => match o with
  | .inl v => (rI 32 126 c ∧ L < 60) ∧ v = some (.int (Int32.ofNat (L + 1))) ∧ ∃ h1 : List zC, hPut h h1 184 L (.int c) ∧ hPut h1 h2 183 1 (.int (Int32.ofNat (L + 1)))
  | .inr E => hExt h h2 ∧ ((E = 1 ∧ ¬ rI 32 126 c) ∨ (E = 2 ∧ rI 32 126 c ∧ L = 60))) := by
  refine zSiload (m := 1) (k := 1) vr_63_0 rfl rfl rfl (fun x2233 e2233 => ?_)
  cases e2233
  refine zSp0 (pc' := 3) (st' := .int (32) :: _) vr_63_1 rfl rfl ?_
  refine zSp0 (pc' := 5) (st' := .int (126) :: _) vr_63_3 rfl rfl ?_
  refine zScall vr_63_5 rfl rfl rfl (fun m2236 _ => C_val _ _ _ _ _ _) (fun v2236 h2236 u2236 q2236 => ?_) (fun E2236 h2236 u2236 q2236 => ?_)
  · obtain ⟨eh2236, rfl, r1⟩ := q2236
    replace eh2236 := eh2236.symm
    subst eh2236
    show zL zrx zi _ 63 8 [(0, _), (1, _)] [] _ _ _
    refine zSaload (m := 1) (k := 0) vr_63_8 rfl rfl rfl ?_
    refine zLget vr_63_9 rfl (fun p2238 w2238 e2238 t2238 g2238 => ?_)
    cases e2238
    first | (rw [(st_16_12 hS)] at g2238; cases g2238) | (rw [t1] at g2238; cases g2238) | (rw [(st_183_0 hS)] at g2238; cases g2238) | (rw [f12] at g2238; cases g2238) | (rw [f1] at g2238; cases g2238) | skip
    refine zLget vr_63_12 rfl (fun p2239 w2239 e2239 t2239 g2239 => ?_)
    cases e2239
    first | (rw [(st_16_12 hS)] at g2239; cases g2239) | (rw [t1] at g2239; cases g2239) | (rw [(st_183_0 hS)] at g2239; cases g2239) | (rw [f12] at g2239; cases g2239) | (rw [f1] at g2239; cases g2239) | skip
    refine zSp0 (pc' := 17) (st' := .int (60) :: _) vr_63_15 rfl rfl ?_
    refine zSb2 (f := fun x y => decide (y ≤ x)) (off := 7) (t := 24) vr_63_17 rfl rfl rfl (fun x2241 y2241 e2241 f2241 q2241 => ?_) (fun x2241 y2241 e2241 f2241 q2241 => ?_)
    · cases e2241
      cases f2241
      have c2241 := of_decide_eq_true q2241
      refine zSp0 (pc' := 25) (st' := .int (0) :: _) vr_63_24 rfl rfl ?_
      refine zScall vr_63_25 rfl rfl rfl (fun m _ => C_needState _ _ _ _) (fun v h u q => absurd rfl q.2.2) (fun E h3 u q => ?_)
      obtain ⟨rfl, -, q2⟩ := q
      rw [zCat_no vh_63_25_2]
      refine ⟨q2, Or.inr ⟨rfl, r1, ?_⟩⟩
      have y := c2241
      have z60 : (60 : Int32).toInt = 60 := rfl
      rw [i32_le, z60, (toNat_ofNat (show L < 2147483648 by omega)).2] at y
      omega
    · cases e2241
      cases f2241
      have c2241 := ndc q2241
      refine zSp0 (pc' := 21) (st' := .int (1) :: _) vr_63_20 rfl rfl ?_
      refine zSgo (t := 25) vr_63_21 rfl rfl ?_
      refine zScall vr_63_25 rfl rfl rfl (fun m2244 _ => C_needState _ _ _ _) (fun v2244 h2244 u2244 q2244 => ?_) (fun E2244 h2244 u2244 q2244 => ?_)
      · obtain ⟨eh2244, rfl, -⟩ := q2244
        replace eh2244 := eh2244.symm
        subst eh2244
        show zL zrx zi _ 63 28 [(0, _), (1, _)] [] _ _ _
        have l60 : L < 60 := by
          have y := c2241
          have z60 : (60 : Int32).toInt = 60 := rfl
          rw [i32_le, z60, (toNat_ofNat (show L < 2147483648 by omega)).2] at y
          omega
        have kL := toNat_ofNat (show L < 2147483648 by omega)
        refine zSaload (m := 1) (k := 0) vr_63_28 rfl rfl rfl ?_
        refine zLget vr_63_29 rfl (fun p2246 w2246 e2246 t2246 g2246 => ?_)
        cases e2246
        first | (rw [(st_16_12 hS)] at g2246; cases g2246) | (rw [t1] at g2246; cases g2246) | (rw [(st_183_0 hS)] at g2246; cases g2246) | (rw [f12] at g2246; cases g2246) | (rw [f1] at g2246; cases g2246) | skip
        refine zLget vr_63_32 rfl (fun p2247 w2247 e2247 t2247 g2247 => ?_)
        cases e2247
        first | (rw [(st_16_12 hS)] at g2247; cases g2247) | (rw [t1] at g2247; cases g2247) | (rw [(st_183_0 hS)] at g2247; cases g2247) | (rw [f12] at g2247; cases g2247) | (rw [f1] at g2247; cases g2247) | skip
        refine zSaload (m := 1) (k := 0) vr_63_35 rfl rfl rfl ?_
        refine zLget vr_63_36 rfl (fun p2249 w2249 e2249 t2249 g2249 => ?_)
        cases e2249
        first | (rw [(st_16_12 hS)] at g2249; cases g2249) | (rw [t1] at g2249; cases g2249) | (rw [(st_183_0 hS)] at g2249; cases g2249) | (rw [f12] at g2249; cases g2249) | (rw [f1] at g2249; cases g2249) | skip
        refine zLget vr_63_39 rfl (fun p2250 w2250 e2250 t2250 g2250 => ?_)
        cases e2250
        first | (rw [(st_16_12 hS)] at g2250; cases g2250) | (rw [t1] at g2250; cases g2250) | (rw [(st_183_0 hS)] at g2250; cases g2250) | (rw [f12] at g2250; cases g2250) | (rw [f1] at g2250; cases g2250) | skip
        refine zSiload (m := 1) (k := 1) vr_63_42 rfl rfl rfl (fun x2251 e2251 => ?_)
        cases e2251
        refine zLiast vr_63_43 rfl (fun p2252 x2252 z2252 k2252 e2252 f2252 d2252 c2252 t2252 g2252 => ?_)
        cases e2252
        cases f2252
        cases d2252
        have g43 := g2252
        rw [kL.1] at g43
        have hS2 := hS.put g43 s184
        have f12 := st_16_12 hS2
        have f1 := (g43.2.1 183 1).trans ((if_neg (by omega)).trans t1)
        refine zSaload (m := 1) (k := 0) vr_63_44 rfl rfl rfl ?_
        refine zLget vr_63_45 rfl (fun p2254 w2254 e2254 t2254 g2254 => ?_)
        cases e2254
        first | (rw [(st_16_12 hS)] at g2254; cases g2254) | (rw [t1] at g2254; cases g2254) | (rw [(st_183_0 hS)] at g2254; cases g2254) | (rw [f12] at g2254; cases g2254) | (rw [f1] at g2254; cases g2254) | skip
        refine zSdup vr_63_48 rfl ?_
        refine zLget vr_63_49 rfl (fun p2256 w2256 e2256 t2256 g2256 => ?_)
        cases e2256
        first | (rw [(st_16_12 hS)] at g2256; cases g2256) | (rw [t1] at g2256; cases g2256) | (rw [(st_183_0 hS)] at g2256; cases g2256) | (rw [f12] at g2256; cases g2256) | (rw [f1] at g2256; cases g2256) | skip
        refine zSp0 (pc' := 53) (st' := .int (1) :: _) vr_63_52 rfl rfl ?_
        refine zS2 (f := fun x y => .int (x + y)) vr_63_53 rfl rfl (fun x2258 y2258 e2258 f2258 => ?_)
        cases e2258
        cases f2258
        refine zLput vr_63_54 rfl (fun p2259 k2259 e2259 t2259 g2259 => ?_)
        cases e2259
        have g54 := g2259
        rw [ofNat_succ1] at g54
        have f12 := st_16_12 (hS2.fld g54 (by decide +kernel))
        have f1 := (g54.2.1 183 1).trans (if_pos ⟨rfl, rfl⟩)
        refine zSaload (m := 1) (k := 0) vr_63_57 rfl rfl rfl ?_
        refine zLget vr_63_58 rfl (fun p2261 w2261 e2261 t2261 g2261 => ?_)
        cases e2261
        first | (rw [(st_16_12 hS)] at g2261; cases g2261) | (rw [t1] at g2261; cases g2261) | (rw [(st_183_0 hS)] at g2261; cases g2261) | (rw [f12] at g2261; cases g2261) | (rw [f1] at g2261; cases g2261) | skip
        refine zLget vr_63_61 rfl (fun p2262 w2262 e2262 t2262 g2262 => ?_)
        cases e2262
        first | (rw [(st_16_12 hS)] at g2262; cases g2262) | (rw [t1] at g2262; cases g2262) | (rw [(st_183_0 hS)] at g2262; cases g2262) | (rw [f12] at g2262; cases g2262) | (rw [f1] at g2262; cases g2262) | skip
        refine zLiret vr_63_64 rfl (fun x2263 e2263 => ?_)
        cases e2263
        exact ⟨⟨r1, l60⟩, rfl, _, g43, g54⟩
      · obtain ⟨-, z, -⟩ := q2244
        exact absurd z (by decide)
  · obtain ⟨rfl, q1, q2⟩ := q2236
    rw [zCat_no vh_63_5_1]
    exact ⟨q2, Or.inl ⟨rfl, q1⟩⟩
abbrev Q_Lfeed (L : Nat) (c : Int32) (h : List zC) : zK := fun o h2 _ => ∃ k : Int32, o = .inl (some (.int k)) ∧
  ((k = 0 ∧ (rI 32 126 c ∧ L < 60) ∧ ∃ h1 h3 : List zC, hPut h h1 184 L (.int c) ∧ hPut h1 h3 183 1 (.int (Int32.ofNat (L + 1))) ∧ hPut h3 h2 238 0 (.long (Int32.ofNat (L + 1)).toInt64)) ∨ (k = 1 ∧ ¬ rI 32 126 c ∧ hExt h h2) ∨ (k = 2 ∧ rI 32 126 c ∧ L = 60 ∧ hExt h h2))
theorem C_Lfeed (n : Nat) (c : Int32) (h : List zC) (u : Nat) {L : Nat} (hS : Stc h) (t1 : gF h 183 1 = some (.int (Int32.ofNat L))) (t2 : L ≤ 60) : zL zrx zi n 214 0 [(0, .ref 16), (1, .int c), (2, .ref 238)] [] h u (Q_Lfeed L c h) := by
  refine zSaload (m := 1) (k := 2) vr_214_0 rfl rfl rfl ?_
  refine zSaload (m := 1) (k := 0) vr_214_1 rfl rfl rfl ?_
  refine zSiload (m := 1) (k := 1) vr_214_2 rfl rfl rfl (fun x2266 e2266 => ?_)
  cases e2266
  refine zScall vr_214_3 rfl rfl rfl (fun m2267 _ => C_feed _ _ _ _ hS t1 t2) (fun v2267 h2267 u2267 q2267 => ?_) (fun E2267 h2267 u2267 q2267 => ?_)
  · obtain ⟨k1, rfl, i2267, k2, k3⟩ := q2267
    show zL zrx zi _ 214 6 [(0, _), (1, _), (2, _)] [_, _] _ _ _
    refine zS1 (f := fun x => .long x.toInt64) vr_214_6 rfl rfl (fun x2268 e2268 => ?_)
    cases e2268
    refine zLput vr_214_7 rfl (fun p2269 k2269 e2269 t2269 g2269 => ?_)
    cases e2269
    have gP := g2269
    refine zSgo (t := 19) vr_214_10 rfl rfl ?_
    refine zSp0 (pc' := 20) (st' := .int (0) :: _) vr_214_19 rfl rfl ?_
    refine zLiret vr_214_20 rfl (fun x2272 e2272 => ?_)
    cases e2272
    exact ⟨_, rfl, Or.inl ⟨rfl, k1, _, _, k2, k3, gP⟩⟩
  · obtain ⟨q1, ⟨rfl, z⟩ | ⟨rfl, z⟩⟩ := q2267
    · rw [zCat_hit (k := 3) (m := 1) vh_214_3_1 vr_214_13 rfl (by decide)]
      show zL zrx zi _ 214 14 [(0, _), (1, _), (2, _)] [] _ _ _
      refine zSp0 (pc' := 15) (st' := .int (1) :: _) vr_214_14 rfl rfl ?_
      refine zLiret vr_214_15 rfl (fun x2274 e2274 => ?_)
      cases e2274
      exact ⟨_, rfl, Or.inr (Or.inl ⟨rfl, z, q1⟩)⟩
    · rw [zCat_hit (k := 3) (m := 1) vh_214_3_2 vr_214_16 rfl (by decide)]
      show zL zrx zi _ 214 17 [(0, _), (1, _), (2, _)] [] _ _ _
      refine zSp0 (pc' := 18) (st' := .int (2) :: _) vr_214_17 rfl rfl ?_
      refine zLiret vr_214_18 rfl (fun x2276 e2276 => ?_)
      cases e2276
      exact ⟨_, rfl, Or.inr (Or.inr ⟨rfl, z.1, z.2, q1⟩)⟩
theorem C_write (n : Nat)  (h : List zC) (u : Nat) {T : Nat → Int32} {L : Nat} {cnt : Int32} (hS : Stc h) (h0c : 0 ≤ cnt.toInt) (hc2 : cnt.toInt ≤ 24) (t1 : gF h 183 1 = some (.int (Int32.ofNat L))) (t2 : L ≤ 60) (t3 : ∀ i, i < L → gF h 184 i = some (.int (T i))) (t4 : gF h 71 2 = some (.int cnt)) (hCl : ∀ k, k < cnt.toNatClampNeg → ∃ C : Nat, gF h (73 + 4 * k) 1 = some (.ref C) ∧ 239 ≤ C) : zL zrx zi n 64 0 [(0, .ref 16)] [] h u (fun o h2 _ => match o with
  | .inl v => (cnt.toInt < 24) ∧ ∃ b : Int32, TDF T L cnt cnt h h2 (.inl (some (.int b))) ∧ v = some (.int (if b = 0 then -1 else mxI cnt (cnt + 1) - 1))
  | .inr E => hExt h h2 ∧ E = 2 ∧ ¬ cnt.toInt < 24) := by
  refine zSaload (m := 1) (k := 0) vr_64_0 rfl rfl rfl ?_
  refine zLget vr_64_1 rfl (fun p2278 w2278 e2278 t2278 g2278 => ?_)
  cases e2278
  first | (rw [(st_16_10 hS)] at g2278; cases g2278) | (rw [t4] at g2278; cases g2278) | (rw [fa] at g2278; cases g2278) | (rw [fb] at g2278; cases g2278) | skip
  refine zLget vr_64_4 rfl (fun p2279 w2279 e2279 t2279 g2279 => ?_)
  cases e2279
  first | (rw [(st_16_10 hS)] at g2279; cases g2279) | (rw [t4] at g2279; cases g2279) | (rw [fa] at g2279; cases g2279) | (rw [fb] at g2279; cases g2279) | skip
  refine zSp0 (pc' := 9) (st' := .int (24) :: _) vr_64_7 rfl rfl ?_
  refine zSb2 (f := fun x y => decide (y ≤ x)) (off := 7) (t := 16) vr_64_9 rfl rfl rfl (fun x2281 y2281 e2281 f2281 q2281 => ?_) (fun x2281 y2281 e2281 f2281 q2281 => ?_)
  · cases e2281
    cases f2281
    have c2281 := of_decide_eq_true q2281
    refine zSp0 (pc' := 17) (st' := .int (0) :: _) vr_64_16 rfl rfl ?_
    refine zScall vr_64_17 rfl rfl rfl (fun m _ => C_needState _ _ _ _) (fun v h u q => absurd rfl q.2.2) (fun E h3 u q => ?_)
    obtain ⟨rfl, -, q2⟩ := q
    rw [zCat_no vh_64_17_2]
    refine ⟨q2, rfl, fun z => ?_⟩
    have y := c2281
    have z24 : (24 : Int32).toInt = 24 := rfl
    rw [i32_le, z24] at y
    omega
  · cases e2281
    cases f2281
    have c2281 := ndc q2281
    refine zSp0 (pc' := 13) (st' := .int (1) :: _) vr_64_12 rfl rfl ?_
    refine zSgo (t := 17) vr_64_13 rfl rfl ?_
    refine zScall vr_64_17 rfl rfl rfl (fun m2284 _ => C_needState _ _ _ _) (fun v2284 h2284 u2284 q2284 => ?_) (fun E2284 h2284 u2284 q2284 => ?_)
    · obtain ⟨eh2284, rfl, -⟩ := q2284
      replace eh2284 := eh2284.symm
      subst eh2284
      show zL zrx zi _ 64 20 [(0, _)] [] _ _ _
      have l24 : cnt.toInt < 24 := by
        have y := c2281
        have z24 : (24 : Int32).toInt = 24 := rfl
        rw [i32_le, z24] at y
        omega
      refine zSaload (m := 1) (k := 0) vr_64_20 rfl rfl rfl ?_
      refine zSaload (m := 1) (k := 0) vr_64_21 rfl rfl rfl ?_
      refine zLget vr_64_22 rfl (fun p2287 w2287 e2287 t2287 g2287 => ?_)
      cases e2287
      first | (rw [(st_16_10 hS)] at g2287; cases g2287) | (rw [t4] at g2287; cases g2287) | (rw [fa] at g2287; cases g2287) | (rw [fb] at g2287; cases g2287) | skip
      refine zLget vr_64_25 rfl (fun p2288 w2288 e2288 t2288 g2288 => ?_)
      cases e2288
      first | (rw [(st_16_10 hS)] at g2288; cases g2288) | (rw [t4] at g2288; cases g2288) | (rw [fa] at g2288; cases g2288) | (rw [fb] at g2288; cases g2288) | skip
      refine zScall vr_64_28 rfl rfl rfl (fun m2289 _ => C_draft _ _ _ _ h0c l24 hc2 hS t1 t2 t3 t4 h0c (Int.le_refl _) hCl) (fun v2289 h2289 u2289 q2289 => ?_) (fun E2289 h2289 u2289 q2289 => ?_)
      · obtain ⟨bb2289, z2289⟩ := td_o q2289.1
        cases z2289
        have dd2289 := q2289
        show zL zrx zi _ 64 31 [(0, _)] [_] _ _ _
        refine zSb1 (f := fun x => decide (x = 0)) (off := 15) (t := 46) vr_64_31 rfl rfl rfl (fun x2290 e2290 q2290 => ?_) (fun x2290 e2290 q2290 => ?_)
        · cases e2290
          have c2290 := of_decide_eq_true q2290
          refine zSp0 (pc' := 47) (st' := .int (-1) :: _) vr_64_46 rfl rfl ?_
          refine zLiret vr_64_47 rfl (fun x2292 e2292 => ?_)
          cases e2292
          first
            | exact ⟨l24, _, dd2289, by rw [if_pos c2290]⟩
            | exact ⟨l24, _, dd2289, by rw [if_neg c2290]⟩
        · cases e2290
          have c2290 := ndc q2290
          obtain ⟨p1, F1, e1, cz1, fab, fb⟩ := td_y hS.1 dd2289.1 c2290
          have fa := fab.2.trans (st_16_10 hS)
          refine zSaload (m := 1) (k := 0) vr_64_34 rfl rfl rfl ?_
          refine zLget vr_64_35 rfl (fun p2294 w2294 e2294 t2294 g2294 => ?_)
          cases e2294
          first | (rw [(st_16_10 hS)] at g2294; cases g2294) | (rw [t4] at g2294; cases g2294) | (rw [fa] at g2294; cases g2294) | (rw [fb] at g2294; cases g2294) | skip
          refine zLget vr_64_38 rfl (fun p2295 w2295 e2295 t2295 g2295 => ?_)
          cases e2295
          first | (rw [(st_16_10 hS)] at g2295; cases g2295) | (rw [t4] at g2295; cases g2295) | (rw [fa] at g2295; cases g2295) | (rw [fb] at g2295; cases g2295) | skip
          refine zSp0 (pc' := 42) (st' := .int (1) :: _) vr_64_41 rfl rfl ?_
          refine zS2 (f := fun x y => .int (x - y)) vr_64_42 rfl rfl (fun x2297 y2297 e2297 f2297 => ?_)
          cases e2297
          cases f2297
          refine zSgo (t := 47) vr_64_43 rfl rfl ?_
          refine zLiret vr_64_47 rfl (fun x2299 e2299 => ?_)
          cases e2299
          first
            | exact ⟨l24, _, dd2289, by rw [if_pos c2290]⟩
            | exact ⟨l24, _, dd2289, by rw [if_neg c2290]⟩
      · obtain ⟨bb, z⟩ := td_o q2289.1
        cases z
    · obtain ⟨-, z, -⟩ := q2284
      exact absurd z (by decide)
abbrev Q_Lwrite (T : Nat → Int32) (L : Nat) (cnt : Int32)  (h : List zC) : zK := fun o h2 _ => ∃ k : Int32, o = .inl (some (.int k)) ∧
  ((k = 0 ∧ cnt.toInt < 24 ∧ ∃ (b : Int32) (h1 : List zC), TDF T L cnt cnt h h1 (.inl (some (.int b))) ∧ hPut h1 h2 238 0 (.long (if b = 0 then -1 else mxI cnt (cnt + 1) - 1).toInt64)) ∨ (k = 1 ∧ ¬ cnt.toInt < 24 ∧ hExt h h2))
theorem C_Lwrite (n : Nat)  (h : List zC) (u : Nat) {T : Nat → Int32} {L : Nat} {cnt : Int32} (hS : Stc h) (h0c : 0 ≤ cnt.toInt) (hc2 : cnt.toInt ≤ 24) (t1 : gF h 183 1 = some (.int (Int32.ofNat L))) (t2 : L ≤ 60) (t3 : ∀ i, i < L → gF h 184 i = some (.int (T i))) (t4 : gF h 71 2 = some (.int cnt)) (hCl : ∀ k, k < cnt.toNatClampNeg → ∃ C : Nat, gF h (73 + 4 * k) 1 = some (.ref C) ∧ 239 ≤ C) : zL zrx zi n 215 0 [(0, .ref 16), (1, .ref 238)] [] h u (Q_Lwrite T L cnt  h) := by
  refine zSaload (m := 1) (k := 1) vr_215_0 rfl rfl rfl ?_
  refine zSaload (m := 1) (k := 0) vr_215_1 rfl rfl rfl ?_
  refine zScall vr_215_2 rfl rfl rfl (fun m2302 _ => C_write _ _ _ hS h0c hc2 t1 t2 t3 t4 hCl) (fun v2302 h2302 u2302 q2302 => ?_) (fun E2302 h2302 u2302 q2302 => ?_)
  · obtain ⟨k1, b2302, k2, rfl⟩ := q2302
    show zL zrx zi _ 215 5 [(0, _), (1, _)] [_, _] _ _ _
    refine zS1 (f := fun x => .long x.toInt64) vr_215_5 rfl rfl (fun x2303 e2303 => ?_)
    cases e2303
    refine zLput vr_215_6 rfl (fun p2304 k2304 e2304 t2304 g2304 => ?_)
    cases e2304
    have gP := g2304
    refine zSgo (t := 15) vr_215_9 rfl rfl ?_
    refine zSp0 (pc' := 16) (st' := .int (0) :: _) vr_215_15 rfl rfl ?_
    refine zLiret vr_215_16 rfl (fun x2307 e2307 => ?_)
    cases e2307
    exact ⟨_, rfl, Or.inl ⟨rfl, k1, _, _, k2, gP⟩⟩
  · obtain ⟨q1, rfl, z⟩ := q2302
    rw [zCat_hit (k := 2) (m := 1) vh_215_2_2 vr_215_12 rfl (by decide)]
    show zL zrx zi _ 215 13 [(0, _), (1, _)] [] _ _ _
    refine zSp0 (pc' := 14) (st' := .int (1) :: _) vr_215_13 rfl rfl ?_
    refine zLiret vr_215_14 rfl (fun x2309 e2309 => ?_)
    cases e2309
    exact ⟨_, rfl, Or.inr ⟨rfl, z, q1⟩⟩
theorem C_amend (n : Nat) (b : Int32) (h : List zC) (u : Nat) {T : Nat → Int32} {L : Nat} {cnt : Int32} (hS : Stc h) (h0c : 0 ≤ cnt.toInt) (hc2 : cnt.toInt ≤ 24) (t1 : gF h 183 1 = some (.int (Int32.ofNat L))) (t2 : L ≤ 60) (t3 : ∀ i, i < L → gF h 184 i = some (.int (T i))) (t4 : gF h 71 2 = some (.int cnt)) (hCl : ∀ k, k < cnt.toNatClampNeg → ∃ C : Nat, gF h (73 + 4 * k) 1 = some (.ref C) ∧ 239 ≤ C) : zL zrx zi n 65 0 [(0, .ref 16), (1, .int b)] [] h u (fun o h2 _ => match o with
  | .inl v => (iN cnt.toInt b ∧ iv h (73 + 4 * b.toNatClampNeg) 2 = 0) ∧ ∃ d : Int32, TDF T L b cnt h h2 (.inl (some (.int d))) ∧ v = some (.int d)
  | .inr E => hExt h h2 ∧ ((E = 0 ∧ ¬ iN cnt.toInt b) ∨ (E = 2 ∧ iN cnt.toInt b ∧ ¬ iv h (73 + 4 * b.toNatClampNeg) 2 = 0))) := by
  refine zSiload (m := 1) (k := 1) vr_65_0 rfl rfl rfl (fun x2310 e2310 => ?_)
  cases e2310
  refine zSaload (m := 1) (k := 0) vr_65_1 rfl rfl rfl ?_
  refine zLget vr_65_2 rfl (fun p2312 w2312 e2312 t2312 g2312 => ?_)
  cases e2312
  first | (rw [(st_16_10 hS)] at g2312; cases g2312) | (rw [t4] at g2312; cases g2312) | (rw [(st_71_0 hS)] at g2312; cases g2312) | (rw [(st_art hS n24)] at g2312; cases g2312) | skip
  refine zLget vr_65_5 rfl (fun p2313 w2313 e2313 t2313 g2313 => ?_)
  cases e2313
  first | (rw [(st_16_10 hS)] at g2313; cases g2313) | (rw [t4] at g2313; cases g2313) | (rw [(st_71_0 hS)] at g2313; cases g2313) | (rw [(st_art hS n24)] at g2313; cases g2313) | skip
  refine zScall vr_65_8 rfl rfl rfl (fun m2314 _ => C_num6 _ _ _ _ (m := cnt.toInt) rfl) (fun v2314 h2314 u2314 q2314 => ?_) (fun E2314 h2314 u2314 q2314 => ?_)
  · obtain ⟨eh2314, rfl, r1⟩ := q2314
    replace eh2314 := eh2314.symm
    subst eh2314
    show zL zrx zi _ 65 11 [(0, _), (1, _)] [] _ _ _
    have n24 := n24i r1 hc2
    have rb : 0 ≤ b.toInt ∧ b.toInt < 24 := by
      obtain ⟨a1, a2⟩ := r1
      exact ⟨a1, by omega⟩
    refine zSaload (m := 1) (k := 0) vr_65_11 rfl rfl rfl ?_
    refine zLget vr_65_12 rfl (fun p2316 w2316 e2316 t2316 g2316 => ?_)
    cases e2316
    first | (rw [(st_16_10 hS)] at g2316; cases g2316) | (rw [t4] at g2316; cases g2316) | (rw [(st_71_0 hS)] at g2316; cases g2316) | (rw [(st_art hS n24)] at g2316; cases g2316) | skip
    refine zLget vr_65_15 rfl (fun p2317 w2317 e2317 t2317 g2317 => ?_)
    cases e2317
    first | (rw [(st_16_10 hS)] at g2317; cases g2317) | (rw [t4] at g2317; cases g2317) | (rw [(st_71_0 hS)] at g2317; cases g2317) | (rw [(st_art hS n24)] at g2317; cases g2317) | skip
    refine zSiload (m := 1) (k := 1) vr_65_18 rfl rfl rfl (fun x2318 e2318 => ?_)
    cases e2318
    refine zLaald vr_65_19 rfl (fun p2319 x2319 w2319 e2319 f2319 c2319 t2319 g2319 => ?_)
    cases e2319
    cases f2319
    first | (rw [(st_16_10 hS)] at g2319; cases g2319) | (rw [t4] at g2319; cases g2319) | (rw [(st_71_0 hS)] at g2319; cases g2319) | (rw [(st_art hS n24)] at g2319; cases g2319) | skip
    refine zLget vr_65_20 rfl (fun p2320 w2320 e2320 t2320 g2320 => ?_)
    cases e2320
    first | (rw [(st_16_10 hS)] at g2320; cases g2320) | (rw [t4] at g2320; cases g2320) | (rw [(st_71_0 hS)] at g2320; cases g2320) | (rw [(st_art hS n24)] at g2320; cases g2320) | skip
    refine zSb1 (f := fun x => decide (¬ x = 0)) (off := 7) (t := 30) vr_65_23 rfl rfl rfl (fun x2321 e2321 q2321 => ?_) (fun x2321 e2321 q2321 => ?_)
    · cases e2321
      have c2321 := of_decide_eq_true q2321
      refine zSp0 (pc' := 31) (st' := .int (0) :: _) vr_65_30 rfl rfl ?_
      refine zScall vr_65_31 rfl rfl rfl (fun m _ => C_needState _ _ _ _) (fun v h u q => absurd rfl q.2.2) (fun E h3 u q => ?_)
      obtain ⟨rfl, -, q2⟩ := q
      rw [zCat_no vh_65_31_2]
      exact ⟨q2, Or.inr ⟨rfl, r1, fun z => c2321 ((iv_of g2320).symm.trans z)⟩⟩
    · cases e2321
      have c2321 := ndc q2321
      refine zSp0 (pc' := 27) (st' := .int (1) :: _) vr_65_26 rfl rfl ?_
      refine zSgo (t := 31) vr_65_27 rfl rfl ?_
      refine zScall vr_65_31 rfl rfl rfl (fun m2324 _ => C_needState _ _ _ _) (fun v2324 h2324 u2324 q2324 => ?_) (fun E2324 h2324 u2324 q2324 => ?_)
      · obtain ⟨eh2324, rfl, -⟩ := q2324
        replace eh2324 := eh2324.symm
        subst eh2324
        show zL zrx zi _ 65 34 [(0, _), (1, _)] [] _ _ _
        refine zSaload (m := 1) (k := 0) vr_65_34 rfl rfl rfl ?_
        refine zSiload (m := 1) (k := 1) vr_65_35 rfl rfl rfl (fun x2326 e2326 => ?_)
        cases e2326
        refine zScall vr_65_36 rfl rfl rfl (fun m2327 _ => C_draft _ _ _ _ rb.1 rb.2 hc2 hS t1 t2 t3 t4 h0c (Int.le_of_lt r1.2) hCl) (fun v2327 h2327 u2327 q2327 => ?_) (fun E2327 h2327 u2327 q2327 => ?_)
        · obtain ⟨bb2327, z2327⟩ := td_o q2327.1
          cases z2327
          have dd2327 := q2327
          show zL zrx zi _ 65 39 [(0, _), (1, _)] [_] _ _ _
          refine zLiret vr_65_39 rfl (fun x2328 e2328 => ?_)
          cases e2328
          exact ⟨⟨r1, (iv_of g2320).trans (Decidable.not_not.mp c2321)⟩, _, dd2327, rfl⟩
        · obtain ⟨bb, z⟩ := td_o q2327.1
          cases z
      · obtain ⟨-, z, -⟩ := q2324
        exact absurd z (by decide)
  · obtain ⟨rfl, q1, q2⟩ := q2314
    rw [zCat_no vh_65_8_0]
    exact ⟨q2, Or.inl ⟨rfl, q1⟩⟩
abbrev Q_Lamend (T : Nat → Int32) (L : Nat) (cnt : Int32) (b : Int32) (h : List zC) : zK := fun o h2 _ => ∃ k : Int32, o = .inl (some (.int k)) ∧
  ((k = 0 ∧ (iN cnt.toInt b ∧ iv h (73 + 4 * b.toNatClampNeg) 2 = 0) ∧ ∃ (d : Int32) (h1 : List zC), TDF T L b cnt h h1 (.inl (some (.int d))) ∧ hPut h1 h2 238 0 (.long (if d = 0 then 0 else 1))) ∨ (k = 1 ∧ ¬ iN cnt.toInt b ∧ hExt h h2) ∨ (k = 2 ∧ iN cnt.toInt b ∧ ¬ iv h (73 + 4 * b.toNatClampNeg) 2 = 0 ∧ hExt h h2))
theorem C_Lamend (n : Nat) (b : Int32) (h : List zC) (u : Nat) {T : Nat → Int32} {L : Nat} {cnt : Int32} (hS : Stc h) (h0c : 0 ≤ cnt.toInt) (hc2 : cnt.toInt ≤ 24) (t1 : gF h 183 1 = some (.int (Int32.ofNat L))) (t2 : L ≤ 60) (t3 : ∀ i, i < L → gF h 184 i = some (.int (T i))) (t4 : gF h 71 2 = some (.int cnt)) (hCl : ∀ k, k < cnt.toNatClampNeg → ∃ C : Nat, gF h (73 + 4 * k) 1 = some (.ref C) ∧ 239 ≤ C) : zL zrx zi n 216 0 [(0, .ref 16), (1, .int b), (2, .ref 238)] [] h u (Q_Lamend T L cnt b h) := by
  refine zSaload (m := 1) (k := 2) vr_216_0 rfl rfl rfl ?_
  refine zSaload (m := 1) (k := 0) vr_216_1 rfl rfl rfl ?_
  refine zSiload (m := 1) (k := 1) vr_216_2 rfl rfl rfl (fun x2331 e2331 => ?_)
  cases e2331
  refine zScall vr_216_3 rfl rfl rfl (fun m2332 _ => C_amend _ _ _ _ hS h0c hc2 t1 t2 t3 t4 hCl) (fun v2332 h2332 u2332 q2332 => ?_) (fun E2332 h2332 u2332 q2332 => ?_)
  · obtain ⟨k1, d2332, k2, rfl⟩ := q2332
    show zL zrx zi _ 216 6 [(0, _), (1, _), (2, _)] [_, _] _ _ _
    refine zSb1 (f := fun x => decide (x = 0)) (off := 7) (t := 13) vr_216_6 rfl rfl rfl (fun x2333 e2333 q2333 => ?_) (fun x2333 e2333 q2333 => ?_)
    · cases e2333
      have c2333 := of_decide_eq_true q2333
      refine zSp0 vr_216_13 rfl rfl ?_
      refine zLput vr_216_14 rfl (fun p2335 k2335 e2335 t2335 g2335 => ?_)
      cases e2335
      have gP := g2335
      refine zSgo (t := 26) vr_216_17 rfl rfl ?_
      refine zSp0 (pc' := 27) (st' := .int (0) :: _) vr_216_26 rfl rfl ?_
      refine zLiret vr_216_27 rfl (fun x2338 e2338 => ?_)
      cases e2338
      first
        | exact ⟨_, rfl, Or.inl ⟨rfl, k1, _, _, k2, by rw [if_pos c2333]; exact gP⟩⟩
        | exact ⟨_, rfl, Or.inl ⟨rfl, k1, _, _, k2, by rw [if_neg c2333]; exact gP⟩⟩
    · cases e2333
      have c2333 := ndc q2333
      refine zSp0 vr_216_9 rfl rfl ?_
      refine zSgo (t := 14) vr_216_10 rfl rfl ?_
      refine zLput vr_216_14 rfl (fun p2341 k2341 e2341 t2341 g2341 => ?_)
      cases e2341
      have gP := g2341
      refine zSgo (t := 26) vr_216_17 rfl rfl ?_
      refine zSp0 (pc' := 27) (st' := .int (0) :: _) vr_216_26 rfl rfl ?_
      refine zLiret vr_216_27 rfl (fun x2344 e2344 => ?_)
      cases e2344
      first
        | exact ⟨_, rfl, Or.inl ⟨rfl, k1, _, _, k2, by rw [if_pos c2333]; exact gP⟩⟩
        | exact ⟨_, rfl, Or.inl ⟨rfl, k1, _, _, k2, by rw [if_neg c2333]; exact gP⟩⟩
  · obtain ⟨q1, ⟨rfl, z⟩ | ⟨rfl, z⟩⟩ := q2332
    · rw [zCat_hit (k := 3) (m := 1) vh_216_3_0 vr_216_20 rfl (by decide)]
      show zL zrx zi _ 216 21 [(0, _), (1, _), (2, _)] [] _ _ _
      refine zSp0 (pc' := 22) (st' := .int (1) :: _) vr_216_21 rfl rfl ?_
      refine zLiret vr_216_22 rfl (fun x2346 e2346 => ?_)
      cases e2346
      exact ⟨_, rfl, Or.inr (Or.inl ⟨rfl, z, q1⟩)⟩
    · rw [zCat_hit (k := 3) (m := 1) vh_216_3_2 vr_216_23 rfl (by decide)]
      show zL zrx zi _ 216 24 [(0, _), (1, _), (2, _)] [] _ _ _
      refine zSp0 (pc' := 25) (st' := .int (2) :: _) vr_216_24 rfl rfl ?_
      refine zLiret vr_216_25 rfl (fun x2348 e2348 => ?_)
      cases e2348
      exact ⟨_, rfl, Or.inr (Or.inr ⟨rfl, z.1, z.2, q1⟩)⟩
theorem C_lset (n : Nat) (M e : Nat) (k : Int32) (h : List zC) (u : Nat) {el : Nat} {s : Int32} (hL : gF h M 1 = some (.ref el)) (hs : gF h M 2 = some (.int s)) : zL zrx zi n 307 0 [(0, .ref M), (1, .int k), (2, .ref e)] [] h u (fun o h2 _ => ∃ w, o = .inl (some w) ∧ hPut h h2 el k.toNatClampNeg (.ref e)) := by
  refine zSiload (m := 1) (k := 1) vr_307_0 rfl rfl rfl (fun x2349 e2349 => ?_)
  cases e2349
  refine zSaload (m := 1) (k := 0) vr_307_1 rfl rfl rfl ?_
  refine zLget vr_307_2 rfl (fun p2351 w2351 e2351 t2351 g2351 => ?_)
  cases e2351
  first | (rw [hs] at g2351; cases g2351) | (rw [hL] at g2351; cases g2351) | skip
  refine zScall vr_307_5 rfl rfl rfl (fun m2352 _ => C_chk2 _ _ _ _ _) (fun v2352 h2352 u2352 q2352 => ?_) (fun E2352 h2352 u2352 q2352 => ?_)
  · obtain ⟨eh2352, z2352⟩ := q2352
    replace eh2352 := eh2352.symm
    subst eh2352
    cases z2352
    show zL zrx zi _ 307 8 [(0, _), (1, _), (2, _)] [_] _ _ _
    refine zSpop vr_307_8 rfl ?_
    refine zSaload (m := 1) (k := 0) vr_307_9 rfl rfl rfl ?_
    refine zSiload (m := 1) (k := 1) vr_307_10 rfl rfl rfl (fun x2355 e2355 => ?_)
    cases e2355
    refine zScall vr_307_11 rfl rfl rfl (fun m2356 _ => C_elem _ _ _ _ _ hL) (fun v2356 h2356 u2356 q2356 => ?_) (fun E2356 h2356 u2356 q2356 => ?_)
    · obtain ⟨eh2356, k1, w2356, z2356, k2⟩ := q2356
      replace eh2356 := eh2356.symm
      subst eh2356
      cases z2356
      show zL zrx zi _ 307 14 [(0, _), (1, _), (2, _)] [_] _ _ _
      refine zSastore (m := 1) (k := 3) vr_307_14 rfl rfl ?_
      show zL zrx zi _ 307 15 [(3, _), (0, _), (1, _), (2, _)] [] _ _ _
      refine zSaload (m := 1) (k := 0) vr_307_15 rfl rfl rfl ?_
      refine zLget vr_307_16 rfl (fun p2359 w2359 e2359 t2359 g2359 => ?_)
      cases e2359
      first | (rw [hs] at g2359; cases g2359) | (rw [hL] at g2359; cases g2359) | skip
      refine zSiload (m := 1) (k := 1) vr_307_19 rfl rfl rfl (fun x2360 e2360 => ?_)
      cases e2360
      refine zSaload (m := 1) (k := 2) vr_307_20 rfl rfl rfl ?_
      refine zLaast2 vr_307_21 rfl (fun p2362 x2362 z2362 k2362 e2362 f2362 d2362 c2362 t2362 l2362 g2362 => ?_)
      cases e2362
      cases f2362
      cases d2362
      refine zSaload (m := 1) (k := 3) vr_307_22 rfl rfl rfl ?_
      refine zSaret vr_307_23 rfl ?_
      exact ⟨_, rfl, g2362⟩
    · obtain ⟨-, -, w, z, -⟩ := q2356
      cases z
  · obtain ⟨-, z⟩ := q2352
    cases z
theorem C_isA (n : Nat) (x : Int32) (h : List zC) (u : Nat) {cnt : Int32} (hS : Stc h) (hs : gF h 225 2 = some (.int cnt)) : zL zrx zi n 158 0 [(0, .ref 213), (1, .int x)] [] h u (fun o h2 _ => h2 = h ∧ o = .inl (some (.int (inB x 0 (cnt - 1))))) := by
  refine zSiload (m := 1) (k := 1) vr_158_0 rfl rfl rfl (fun x2365 e2365 => ?_)
  cases e2365
  refine zSp0 (pc' := 2) (st' := .int (0) :: _) vr_158_1 rfl rfl ?_
  refine zSaload (m := 1) (k := 0) vr_158_2 rfl rfl rfl ?_
  refine zLget vr_158_3 rfl (fun p2368 w2368 e2368 t2368 g2368 => ?_)
  cases e2368
  first | (rw [(st_213_9 hS)] at g2368; cases g2368) | skip
  refine zScall vr_158_6 rfl rfl rfl (fun m2369 _ => C_lsize _ _ _ _ hs) (fun v2369 h2369 u2369 q2369 => ?_) (fun E2369 h2369 u2369 q2369 => ?_)
  · obtain ⟨eh2369, z2369⟩ := q2369
    replace eh2369 := eh2369.symm
    subst eh2369
    cases z2369
    show zL zrx zi _ 158 11 [(0, _), (1, _)] [_, _, _] _ _ _
    refine zSp0 (pc' := 12) (st' := .int (1) :: _) vr_158_11 rfl rfl ?_
    refine zS2 (f := fun x y => .int (x - y)) vr_158_12 rfl rfl (fun x2371 y2371 e2371 f2371 => ?_)
    cases e2371
    cases f2371
    refine zScall vr_158_13 rfl rfl rfl (fun m2372 _ => C_in _ _ _ _ _ _) (fun v2372 h2372 u2372 q2372 => ?_) (fun E2372 h2372 u2372 q2372 => ?_)
    · obtain ⟨eh2372, z2372⟩ := q2372
      replace eh2372 := eh2372.symm
      subst eh2372
      cases z2372
      show zL zrx zi _ 158 16 [(0, _), (1, _)] [_] _ _ _
      refine zLiret vr_158_16 rfl (fun x2373 e2373 => ?_)
      cases e2373
      exact ⟨rfl, rfl⟩
    · obtain ⟨-, z⟩ := q2372
      cases z
  · obtain ⟨-, z⟩ := q2369
    cases z
theorem C_isB (n : Nat) (x : Int32) (h : List zC) (u : Nat) {el A : Nat} {cnt : Int32} (hS : Stc h) (hL : gF h 225 1 = some (.ref el)) (hs : gF h 225 2 = some (.int cnt)) (hq : gF h el x.toNatClampNeg = some (.ref A)) : zL zrx zi n 159 0 [(0, .ref 213), (1, .int x)] [] h u (fun o h2 _ => h2 = h ∧ o = .inl (some (.int (if iv h A 9 = 0 then 1 else 0)))) := by
  refine zSaload (m := 1) (k := 0) vr_159_0 rfl rfl rfl ?_
  refine zLget vr_159_1 rfl (fun p2375 w2375 e2375 t2375 g2375 => ?_)
  cases e2375
  first | (rw [(st_213_9 hS)] at g2375; cases g2375) | skip
  refine zSiload (m := 1) (k := 1) vr_159_4 rfl rfl rfl (fun x2376 e2376 => ?_)
  cases e2376
  refine zScall vr_159_5 rfl rfl rfl (fun m2377 _ => C_get _ _ _ _ _ hL hs) (fun v2377 h2377 u2377 q2377 => ?_) (fun E2377 h2377 u2377 q2377 => ?_)
  · obtain ⟨eh2377, y2377, w2377, z2377, k2377⟩ := q2377
    replace eh2377 := eh2377.symm
    subst eh2377
    cases z2377
    show zL zrx zi _ 159 10 [(0, _), (1, _)] [_] _ _ _
    refine zLcst vr_159_10 rfl (fun p2378 e2378 => ?_)
    cases e2378
    have e1 := k2377
    rw [hq] at e1
    cases e1
    refine zLget vr_159_13 rfl (fun p2379 w2379 e2379 t2379 g2379 => ?_)
    cases e2379
    first | (rw [(st_213_9 hS)] at g2379; cases g2379) | skip
    refine zSb1 (f := fun x => decide (¬ x = 0)) (off := 7) (t := 23) vr_159_16 rfl rfl rfl (fun x2380 e2380 q2380 => ?_) (fun x2380 e2380 q2380 => ?_)
    · cases e2380
      have c2380 := of_decide_eq_true q2380
      refine zSp0 (pc' := 24) (st' := .int (0) :: _) vr_159_23 rfl rfl ?_
      refine zLiret vr_159_24 rfl (fun x2382 e2382 => ?_)
      cases e2382
      refine ⟨rfl, ?_⟩
      rw [iv_of g2379]
      first
        | rw [if_neg c2380]
        | rw [if_pos (Decidable.not_not.mp c2380)]
    · cases e2380
      have c2380 := ndc q2380
      refine zSp0 (pc' := 20) (st' := .int (1) :: _) vr_159_19 rfl rfl ?_
      refine zSgo (t := 24) vr_159_20 rfl rfl ?_
      refine zLiret vr_159_24 rfl (fun x2385 e2385 => ?_)
      cases e2385
      refine ⟨rfl, ?_⟩
      rw [iv_of g2379]
      first
        | rw [if_neg c2380]
        | rw [if_pos (Decidable.not_not.mp c2380)]
  · obtain ⟨-, -, w, z, -⟩ := q2377
    cases z
abbrev Q_mwrite (T : Nat → Int32) (L s b el : Nat) (cnt : Int32)  (h : List zC) : zK := fun o h2 _ => ∃ (y : Int32) (h0 : List zC), o = .inl (some (.int y)) ∧ hPut h h0 213 0 (.int 0) ∧ ((cnt = 24 ∧ hPut h0 h2 213 0 (.int 1)) ∨ (¬ cnt = 24 ∧ ∃ h1 h3 : List zC, QWr T L s b cnt h0 h1 h3 ∧ ((rd0 T L cnt Fz = none ∧ y = -1 ∧ h2 = h3) ∨ (∃ (p : Nat) (F : Nat → Int32), rd0 T L cnt Fz = some (p, F) ∧ AZ h0.length (h0.length + 1) (h0.length + 2) h3 F ∧ lAdd h3 h2 225 el cnt h0.length ∧ y = cnt))))
theorem C_mwrite (n : Nat)  (h : List zC) (u : Nat) {T : Nat → Int32} {L s b el l : Nat} {bd cnt : Int32} (hS : Stc h) (sb : SB T L s b h) (q1 : gF h 213 10 = some (.ref s)) (q2 : gF h 213 17 = some (.int bd)) (q3 : bd = 0 ∨ bd = 1) (hL : gF h 225 1 = some (.ref el)) (hs : gF h 225 2 = some (.int cnt)) (hn : gN h el = some l) (hl2 : l < 2147483648) (tE : ∃ t, gT h el = some t ∧ 93 ≤ t) (h0c : 0 ≤ cnt.toInt) (h213 : ¬ el = 213) : zL zrx zi n 161 0 [(0, .ref 213)] [] h u (Q_mwrite T L s b el cnt  h) := by
  refine zSaload (m := 1) (k := 0) vr_161_0 rfl rfl rfl ?_
  refine zSp0 (pc' := 2) (st' := .int (0) :: _) vr_161_1 rfl rfl ?_
  refine zLput vr_161_2 rfl (fun p2388 k2388 e2388 t2388 g2388 => ?_)
  cases e2388
  have t0 := g2388
  have hS0 := hS.thr t0
  have f0 : ∀ q k, ¬ (q = 213 ∧ k = 0) → gF k2388 q k = gF h q k := fun q k z => by rw [t0.2.1, if_neg z]
  have hs0 := (f0 225 2 (by omega)).trans hs
  have hL0 := (f0 225 1 (by omega)).trans hL
  have sb0 := sb.same (fun x k n => f0 x k (fun z => n z.1)) (t0.2.2.2 b)
  have q10 := (f0 213 10 (by omega)).trans q1
  have q20 := (f0 213 17 (by omega)).trans q2
  have hl0 : 239 ≤ k2388.length := hS0.1
  have el0 : el < k2388.length := by
    rw [t0.1]
    exact gN_lt hn
  refine zSaload (m := 1) (k := 0) vr_161_5 rfl rfl rfl ?_
  refine zLget vr_161_6 rfl (fun p2390 w2390 e2390 t2390 g2390 => ?_)
  cases e2390
  first | (rw [(st_213_9 hS0)] at g2390; cases g2390) | skip
  refine zScall vr_161_9 rfl rfl rfl (fun m2391 _ => C_lsize _ _ _ _ hs0) (fun v2391 h2391 u2391 q2391 => ?_) (fun E2391 h2391 u2391 q2391 => ?_)
  · obtain ⟨eh2391, z2391⟩ := q2391
    replace eh2391 := eh2391.symm
    subst eh2391
    cases z2391
    show zL zrx zi _ 161 14 [(0, _)] [_] _ _ _
    refine zSp0 (pc' := 16) (st' := .int (24) :: _) vr_161_14 rfl rfl ?_
    refine zSb2 (f := fun x y => decide (¬ x = y)) (off := 9) (t := 25) vr_161_16 rfl rfl rfl (fun x2393 y2393 e2393 f2393 q2393 => ?_) (fun x2393 y2393 e2393 f2393 q2393 => ?_)
    · cases e2393
      cases f2393
      have c2393 := of_decide_eq_true q2393
      have l24 : ¬ cnt = 24 := c2393
      refine zSaload (m := 1) (k := 0) vr_161_25 rfl rfl rfl ?_
      refine zSaload (m := 1) (k := 0) vr_161_26 rfl rfl rfl ?_
      refine zLget vr_161_27 rfl (fun p2396 w2396 e2396 t2396 g2396 => ?_)
      cases e2396
      first | (rw [(st_213_9 hS0)] at g2396; cases g2396) | skip
      refine zScall vr_161_30 rfl rfl rfl (fun m2397 _ => C_lsize _ _ _ _ hs0) (fun v2397 h2397 u2397 q2397 => ?_) (fun E2397 h2397 u2397 q2397 => ?_)
      · obtain ⟨eh2397, z2397⟩ := q2397
        replace eh2397 := eh2397.symm
        subst eh2397
        cases z2397
        show zL zrx zi _ 161 35 [(0, _)] [_, _] _ _ _
        refine zScall vr_161_35 rfl rfl rfl (fun m2398 _ => C_mread _ _ _ _ hS0 sb0 q10 q20 q3) (fun v2398 h2398 u2398 q2398 => ?_) (fun E2398 h2398 u2398 q2398 => ?_)
        · obtain ⟨z2398, rd2398⟩ := q2398
          cases z2398
          show zL zrx zi _ 161 38 [(0, _)] [_] _ _ _
          refine zSastore (m := 1) (k := 1) vr_161_38 rfl rfl ?_
          show zL zrx zi _ 161 39 [(1, _), (0, _)] [] _ _ _
          refine zSaload (m := 1) (k := 0) vr_161_39 rfl rfl rfl ?_
          refine zScstV (v := .ref 1) vr_161_40 rfl rfl ?_
          refine zLput vr_161_42 rfl (fun p2402 k2402 e2402 t2402 g2402 => ?_)
          cases e2402
          have qw : QWr T L s b cnt k2388 h2398 k2402 := ⟨rd2398, g2402⟩
          obtain ⟨a2, bd2, w1, w2, w3⟩ := qw.res hl0
          have hS3 := qw.stc
          have hs3 := (qw.old 225 2 (by omega) (by omega)).trans hs0
          have hL3 := (qw.old 225 1 (by omega) (by omega)).trans hL0
          have hn3 := (qw.oldT el el0).2.trans ((t0.2.2.2 el).trans hn)
          have tE3 : ∃ t, gT k2402 el = some t ∧ 93 ≤ t := by
            rw [(qw.oldT el el0).1, t0.2.2.1]
            exact tE
          refine zSaload (m := 1) (k := 0) vr_161_45 rfl rfl rfl ?_
          refine zLget vr_161_46 rfl (fun p2404 w2404 e2404 t2404 g2404 => ?_)
          cases e2404
          first | (rw [w2] at g2404; cases g2404) | (rw [(st_213_9 hS3)] at g2404; cases g2404) | skip
          refine zSb1 (f := fun x => decide (x = 0)) (off := 5) (t := 54) vr_161_49 rfl rfl rfl (fun x2405 e2405 q2405 => ?_) (fun x2405 e2405 q2405 => ?_)
          · cases e2405
            have c2405 := of_decide_eq_true q2405
            refine zSaload (m := 1) (k := 0) vr_161_54 rfl rfl rfl ?_
            refine zLget vr_161_55 rfl (fun p2407 w2407 e2407 t2407 g2407 => ?_)
            cases e2407
            first | (rw [w2] at g2407; cases g2407) | (rw [(st_213_9 hS3)] at g2407; cases g2407) | skip
            refine zSaload (m := 1) (k := 1) vr_161_58 rfl rfl rfl ?_
            refine zScall vr_161_59 rfl rfl rfl (fun m2409 _ => C_add _ _ _ _ _ hL3 hs3 hn3 hl2 tE3) (fun v2409 h2409 u2409 q2409 => ?_) (fun E2409 h2409 u2409 q2409 => ?_)
            · obtain ⟨z2409, ad2409⟩ := q2409
              cases z2409
              show zL zrx zi _ 161 64 [(1, _), (0, _)] [_] _ _ _
              refine zSpop vr_161_64 rfl ?_
              obtain ⟨ad1, ad2, ad3, el2, ad4, ad5, ad6, ad7, ad8, ad9, ad10⟩ := id ad2409
              have f9 : gF h2409 213 9 = some (.ref 225) := (ad9 213 (by rw [qw.len]; omega) (by omega) (fun z => h213 z.symm) 9).trans (st_213_9 hS3)
              refine zSaload (m := 1) (k := 0) vr_161_65 rfl rfl rfl ?_
              refine zLget vr_161_66 rfl (fun p2412 w2412 e2412 t2412 g2412 => ?_)
              cases e2412
              first | (rw [f9] at g2412; cases g2412) | skip
              refine zScall vr_161_69 rfl rfl rfl (fun m2413 _ => C_lsize _ _ _ _ ad5) (fun v2413 h2413 u2413 q2413 => ?_) (fun E2413 h2413 u2413 q2413 => ?_)
              · obtain ⟨eh2413, z2413⟩ := q2413
                replace eh2413 := eh2413.symm
                subst eh2413
                cases z2413
                show zL zrx zi _ 161 74 [(1, _), (0, _)] [_] _ _ _
                refine zSp0 (pc' := 75) (st' := .int (1) :: _) vr_161_74 rfl rfl ?_
                refine zS2 (f := fun x y => .int (x - y)) vr_161_75 rfl rfl (fun x2415 y2415 e2415 f2415 => ?_)
                cases e2415
                cases f2415
                refine zLiret vr_161_76 rfl (fun x2416 e2416 => ?_)
                cases e2416
                rcases w3 with ⟨z, -⟩ | ⟨-, p, F, e, az⟩
                · have y := c2405
                  rw [z] at y
                  exact absurd y (by decide)
                · exact ⟨_, _, rfl, t0, Or.inr ⟨l24, _, _, qw, Or.inr ⟨p, F, e, az, ad2409, add1s⟩⟩⟩
              · obtain ⟨-, z⟩ := q2413
                cases z
            · obtain ⟨z, -⟩ := q2409
              cases z
          · cases e2405
            have c2405 := ndc q2405
            refine zSp0 (pc' := 53) (st' := .int (-1) :: _) vr_161_52 rfl rfl ?_
            refine zLiret vr_161_53 rfl (fun x2418 e2418 => ?_)
            cases e2418
            rcases w3 with ⟨-, e⟩ | ⟨z, -⟩
            · exact ⟨_, _, rfl, t0, Or.inr ⟨l24, _, _, qw, Or.inl ⟨e, rfl, rfl⟩⟩⟩
            · exact absurd z c2405
        · obtain ⟨z, -⟩ := q2398
          cases z
      · obtain ⟨-, z⟩ := q2397
        cases z
    · cases e2393
      cases f2393
      have c2393 := ndc q2393
      refine zSaload (m := 1) (k := 0) vr_161_19 rfl rfl rfl ?_
      refine zSp0 (pc' := 21) (st' := .int (1) :: _) vr_161_20 rfl rfl ?_
      refine zScall vr_161_21 rfl rfl rfl (fun m2421 _ => C_no _ _ _ _ _) (fun v2421 h2421 u2421 q2421 => ?_) (fun E2421 h2421 u2421 q2421 => ?_)
      · obtain ⟨gn2421, z2421⟩ := q2421
        cases z2421
        show zL zrx zi _ 161 24 [(0, _)] [_] _ _ _
        refine zLiret vr_161_24 rfl (fun x2422 e2422 => ?_)
        cases e2422
        exact ⟨_, _, rfl, t0, Or.inl ⟨Decidable.not_not.mp c2393, gn2421⟩⟩
      · obtain ⟨-, z⟩ := q2421
        cases z
  · obtain ⟨-, z⟩ := q2391
    cases z
abbrev Q_mamend (T : Nat → Int32) (L s b el : Nat) (cnt : Int32) (x : Int32) (h : List zC) : zK := fun o h2 _ => ∃ (y : Int32) (h0 : List zC), o = .inl (some (.int y)) ∧ hPut h h0 213 0 (.int 0) ∧ ((iN cnt.toInt x ∧ ∃ A : Nat, gF h el x.toNatClampNeg = some (.ref A) ∧ ((¬ iv h A 9 = 0 ∧ hPut h0 h2 213 0 (.int 2)) ∨ (iv h A 9 = 0 ∧ ∃ h1 h3 : List zC, QWr T L s b x h0 h1 h3 ∧ ((rd0 T L x Fz = none ∧ y = 0 ∧ h2 = h3) ∨ (∃ (p : Nat) (F : Nat → Int32), rd0 T L x Fz = some (p, F) ∧ AZ h0.length (h0.length + 1) (h0.length + 2) h3 F ∧ hPut h3 h2 el x.toNatClampNeg (.ref h0.length) ∧ y = 1))))) ∨ (¬ iN cnt.toInt x ∧ hPut h0 h2 213 0 (.int 1)))
theorem C_mamend (n : Nat) (x : Int32) (h : List zC) (u : Nat) {T : Nat → Int32} {L s b el l : Nat} {bd cnt : Int32} (hS : Stc h) (sb : SB T L s b h) (q1 : gF h 213 10 = some (.ref s)) (q2 : gF h 213 17 = some (.int bd)) (q3 : bd = 0 ∨ bd = 1) (hL : gF h 225 1 = some (.ref el)) (hs : gF h 225 2 = some (.int cnt)) (hn : gN h el = some l) (hl2 : l < 2147483648) (tE : ∃ t, gT h el = some t ∧ 93 ≤ t) (h0c : 0 ≤ cnt.toInt) (h213 : ¬ el = 213) (hA : ∀ k, k < cnt.toNatClampNeg → ∃ A : Nat, gF h el k = some (.ref A) ∧ 239 ≤ A) : zL zrx zi n 162 0 [(0, .ref 213), (1, .int x)] [] h u (Q_mamend T L s b el cnt x h) := by
  refine zSaload (m := 1) (k := 0) vr_162_0 rfl rfl rfl ?_
  refine zSp0 (pc' := 2) (st' := .int (0) :: _) vr_162_1 rfl rfl ?_
  refine zLput vr_162_2 rfl (fun p2425 k2425 e2425 t2425 g2425 => ?_)
  cases e2425
  have t0 := g2425
  have hS0 := hS.thr t0
  have f0 : ∀ q k, ¬ (q = 213 ∧ k = 0) → gF k2425 q k = gF h q k := fun q k z => by rw [t0.2.1, if_neg z]
  have hs0 := (f0 225 2 (by omega)).trans hs
  have hL0 := (f0 225 1 (by omega)).trans hL
  have sb0 := sb.same (fun x k n => f0 x k (fun z => n z.1)) (t0.2.2.2 b)
  have q10 := (f0 213 10 (by omega)).trans q1
  have q20 := (f0 213 17 (by omega)).trans q2
  have hl0 : 239 ≤ k2425.length := hS0.1
  have el0 : el < k2425.length := by
    rw [t0.1]
    exact gN_lt hn
  refine zSaload (m := 1) (k := 0) vr_162_5 rfl rfl rfl ?_
  refine zSiload (m := 1) (k := 1) vr_162_6 rfl rfl rfl (fun x2427 e2427 => ?_)
  cases e2427
  refine zScall vr_162_7 rfl rfl rfl (fun m2428 _ => C_isA _ _ _ _ hS0 hs0) (fun v2428 h2428 u2428 q2428 => ?_) (fun E2428 h2428 u2428 q2428 => ?_)
  · obtain ⟨eh2428, z2428⟩ := q2428
    replace eh2428 := eh2428.symm
    subst eh2428
    cases z2428
    show zL zrx zi _ 162 10 [(0, _), (1, _)] [_] _ _ _
    refine zSb1 (f := fun x => decide (¬ x = 0)) (off := 17) (t := 27) vr_162_10 rfl rfl rfl (fun x2429 e2429 q2429 => ?_) (fun x2429 e2429 q2429 => ?_)
    · cases e2429
      have c2429 := of_decide_eq_true q2429
      have ra := isr_y h0c c2429
      obtain ⟨A, hA1, lA⟩ := hA x.toNatClampNeg (by
        obtain ⟨a1, a2⟩ := ra
        show x.toInt.toNat < cnt.toInt.toNat
        omega)
      have hq0 : gF k2425 el x.toNatClampNeg = some (.ref A) := (f0 el _ (fun z => h213 z.1)).trans hA1
      have i9 : iv k2425 A 9 = iv h A 9 := iv_eq (f0 A 9 (by omega))
      refine zSaload (m := 1) (k := 0) vr_162_27 rfl rfl rfl ?_
      refine zSiload (m := 1) (k := 1) vr_162_28 rfl rfl rfl (fun x2431 e2431 => ?_)
      cases e2431
      refine zScall vr_162_29 rfl rfl rfl (fun m2432 _ => C_isB _ _ _ _ hS0 hL0 hs0 hq0) (fun v2432 h2432 u2432 q2432 => ?_) (fun E2432 h2432 u2432 q2432 => ?_)
      · obtain ⟨eh2432, z2432⟩ := q2432
        replace eh2432 := eh2432.symm
        subst eh2432
        cases z2432
        show zL zrx zi _ 162 32 [(0, _), (1, _)] [_] _ _ _
        refine zSb1 (f := fun x => decide (¬ x = 0)) (off := 17) (t := 49) vr_162_32 rfl rfl rfl (fun x2433 e2433 q2433 => ?_) (fun x2433 e2433 q2433 => ?_)
        · cases e2433
          have c2433 := of_decide_eq_true q2433
          refine zSaload (m := 1) (k := 0) vr_162_49 rfl rfl rfl ?_
          refine zSiload (m := 1) (k := 1) vr_162_50 rfl rfl rfl (fun x2435 e2435 => ?_)
          cases e2435
          refine zScall vr_162_51 rfl rfl rfl (fun m2436 _ => C_mread _ _ _ _ hS0 sb0 q10 q20 q3) (fun v2436 h2436 u2436 q2436 => ?_) (fun E2436 h2436 u2436 q2436 => ?_)
          · obtain ⟨z2436, rd2436⟩ := q2436
            cases z2436
            show zL zrx zi _ 162 54 [(0, _), (1, _)] [_] _ _ _
            refine zSastore (m := 1) (k := 2) vr_162_54 rfl rfl ?_
            show zL zrx zi _ 162 55 [(2, _), (0, _), (1, _)] [] _ _ _
            refine zSaload (m := 1) (k := 0) vr_162_55 rfl rfl rfl ?_
            refine zScstV (v := .ref 1) vr_162_56 rfl rfl ?_
            refine zLput vr_162_58 rfl (fun p2440 k2440 e2440 t2440 g2440 => ?_)
            cases e2440
            have qw : QWr T L s b x k2425 h2436 k2440 := ⟨rd2436, g2440⟩
            obtain ⟨a2, bd2, w1, w2, w3⟩ := qw.res hl0
            have hS3 := qw.stc
            have hs3 := (qw.old 225 2 (by omega) (by omega)).trans hs0
            have hL3 := (qw.old 225 1 (by omega) (by omega)).trans hL0
            have hn3 := (qw.oldT el el0).2.trans ((t0.2.2.2 el).trans hn)
            have tE3 : ∃ t, gT k2440 el = some t ∧ 93 ≤ t := by
              rw [(qw.oldT el el0).1, t0.2.2.1]
              exact tE
            refine zSaload (m := 1) (k := 0) vr_162_61 rfl rfl rfl ?_
            refine zLget vr_162_62 rfl (fun p2442 w2442 e2442 t2442 g2442 => ?_)
            cases e2442
            first | (rw [w2] at g2442; cases g2442) | (rw [(st_213_9 hS3)] at g2442; cases g2442) | skip
            refine zSb1 (f := fun x => decide (x = 0)) (off := 5) (t := 70) vr_162_65 rfl rfl rfl (fun x2443 e2443 q2443 => ?_) (fun x2443 e2443 q2443 => ?_)
            · cases e2443
              have c2443 := of_decide_eq_true q2443
              refine zSaload (m := 1) (k := 0) vr_162_70 rfl rfl rfl ?_
              refine zLget vr_162_71 rfl (fun p2445 w2445 e2445 t2445 g2445 => ?_)
              cases e2445
              first | (rw [w2] at g2445; cases g2445) | (rw [(st_213_9 hS3)] at g2445; cases g2445) | skip
              refine zSiload (m := 1) (k := 1) vr_162_74 rfl rfl rfl (fun x2446 e2446 => ?_)
              cases e2446
              refine zSaload (m := 1) (k := 2) vr_162_75 rfl rfl rfl ?_
              refine zScall vr_162_76 rfl rfl rfl (fun m2448 _ => C_lset _ _ _ _ _ _ hL3 hs3) (fun v2448 h2448 u2448 q2448 => ?_) (fun E2448 h2448 u2448 q2448 => ?_)
              · obtain ⟨w2448, z2448, st2448⟩ := q2448
                cases z2448
                show zL zrx zi _ 162 81 [(2, _), (0, _), (1, _)] [_] _ _ _
                refine zSpop vr_162_81 rfl ?_
                refine zSp0 (pc' := 83) (st' := .int (1) :: _) vr_162_82 rfl rfl ?_
                refine zLiret vr_162_83 rfl (fun x2451 e2451 => ?_)
                cases e2451
                have e9 : iv h A 9 = 0 := by
                  have y := c2433
                  rw [i9] at y
                  by_cases z : iv h A 9 = 0
                  · exact z
                  · rw [if_neg z] at y
                    exact absurd rfl y
                rcases w3 with ⟨z, -⟩ | ⟨-, p, F, e, az⟩
                · have y := c2443
                  rw [z] at y
                  exact absurd y (by decide)
                · exact ⟨_, _, rfl, t0, Or.inl ⟨ra, A, hA1, Or.inr ⟨e9, _, _, qw, Or.inr ⟨p, F, e, az, st2448, rfl⟩⟩⟩⟩
              · obtain ⟨_, z, -⟩ := q2448
                cases z
            · cases e2443
              have c2443 := ndc q2443
              refine zSp0 (pc' := 69) (st' := .int (0) :: _) vr_162_68 rfl rfl ?_
              refine zLiret vr_162_69 rfl (fun x2453 e2453 => ?_)
              cases e2453
              have e9 : iv h A 9 = 0 := by
                have y := c2433
                rw [i9] at y
                by_cases z : iv h A 9 = 0
                · exact z
                · rw [if_neg z] at y
                  exact absurd rfl y
              rcases w3 with ⟨-, e⟩ | ⟨z, -⟩
              · exact ⟨_, _, rfl, t0, Or.inl ⟨ra, A, hA1, Or.inr ⟨e9, _, _, qw, Or.inl ⟨e, rfl, rfl⟩⟩⟩⟩
              · exact absurd z c2443
          · obtain ⟨z, -⟩ := q2436
            cases z
        · cases e2433
          have c2433 := ndc q2433
          refine zSaload (m := 1) (k := 0) vr_162_35 rfl rfl rfl ?_
          refine zSp0 (pc' := 37) (st' := .int (2) :: _) vr_162_36 rfl rfl ?_
          refine zScall vr_162_37 rfl rfl rfl (fun m2456 _ => C_no _ _ _ _ _) (fun v2456 h2456 u2456 q2456 => ?_) (fun E2456 h2456 u2456 q2456 => ?_)
          · obtain ⟨gn2456, z2456⟩ := q2456
            cases z2456
            show zL zrx zi _ 162 40 [(0, _), (1, _)] [_] _ _ _
            refine zSb1 (f := fun x => decide (x ≤ 0)) (off := 7) (t := 47) vr_162_40 rfl rfl rfl (fun x2457 e2457 q2457 => ?_) (fun x2457 e2457 q2457 => ?_)
            · cases e2457
              have c2457 := of_decide_eq_true q2457
              refine zSp0 (pc' := 48) (st' := .int (0) :: _) vr_162_47 rfl rfl ?_
              refine zLiret vr_162_48 rfl (fun x2459 e2459 => ?_)
              cases e2459
              refine ⟨_, _, rfl, t0, Or.inl ⟨ra, A, hA1, Or.inl ⟨fun z => ?_, gn2456⟩⟩⟩
              have y := Decidable.not_not.mp c2433
              rw [i9, if_pos z] at y
              exact absurd y (by decide)
            · cases e2457
              have c2457 := ndc q2457
              exact absurd c2457 (by decide)
          · obtain ⟨-, z⟩ := q2456
            cases z
      · obtain ⟨-, z⟩ := q2432
        cases z
    · cases e2429
      have c2429 := ndc q2429
      refine zSaload (m := 1) (k := 0) vr_162_13 rfl rfl rfl ?_
      refine zSp0 (pc' := 15) (st' := .int (1) :: _) vr_162_14 rfl rfl ?_
      refine zScall vr_162_15 rfl rfl rfl (fun m2462 _ => C_no _ _ _ _ _) (fun v2462 h2462 u2462 q2462 => ?_) (fun E2462 h2462 u2462 q2462 => ?_)
      · obtain ⟨gn2462, z2462⟩ := q2462
        cases z2462
        show zL zrx zi _ 162 18 [(0, _), (1, _)] [_] _ _ _
        refine zSb1 (f := fun x => decide (x ≤ 0)) (off := 7) (t := 25) vr_162_18 rfl rfl rfl (fun x2463 e2463 q2463 => ?_) (fun x2463 e2463 q2463 => ?_)
        · cases e2463
          have c2463 := of_decide_eq_true q2463
          refine zSp0 (pc' := 26) (st' := .int (0) :: _) vr_162_25 rfl rfl ?_
          refine zLiret vr_162_26 rfl (fun x2465 e2465 => ?_)
          cases e2465
          exact ⟨_, _, rfl, t0, Or.inr ⟨fun z => isr_n h0c (Decidable.not_not.mp c2429) z, gn2462⟩⟩
        · cases e2463
          have c2463 := ndc q2463
          exact absurd c2463 (by decide)
      · obtain ⟨-, z⟩ := q2462
        cases z
  · obtain ⟨-, z⟩ := q2428
    cases z

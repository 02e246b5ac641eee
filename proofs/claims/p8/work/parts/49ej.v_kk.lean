/-! ===== values: the cluster, 8 ===== -/
theorem vr_82_0 : zrx 82 0 = some (.iload_n 1, 0, 0) := by decide +kernel
theorem vr_82_1 : zrx 82 1 = some (.iconst 4, 0, 0) := by decide +kernel
theorem vr_82_2 : zrx 82 2 = some (.invokestatic 68, 96, 0) := by decide +kernel
theorem vr_82_5 : zrx 82 5 = some (.iload_n 2, 0, 0) := by decide +kernel
theorem vr_82_6 : zrx 82 6 = some (.aload_n 0, 0, 0) := by decide +kernel
theorem vr_82_7 : zrx 82 7 = some (.getfield 42, 13, 10) := by decide +kernel
theorem vr_82_10 : zrx 82 10 = some (.getfield 165, 5, 2) := by decide +kernel
theorem vr_82_13 : zrx 82 13 = some (.invokestatic 68, 96, 0) := by decide +kernel
theorem vr_82_16 : zrx 82 16 = some (.aload_n 0, 0, 0) := by decide +kernel
theorem vr_82_17 : zrx 82 17 = some (.getfield 49, 13, 11) := by decide +kernel
theorem vr_82_20 : zrx 82 20 = some (.getfield 179, 11, 0) := by decide +kernel
theorem vr_82_23 : zrx 82 23 = some (.iload_n 1, 0, 0) := by decide +kernel
theorem vr_82_24 : zrx 82 24 = some (.aaload, 0, 0) := by decide +kernel
theorem vr_82_25 : zrx 82 25 = some (.aload_n 0, 0, 0) := by decide +kernel
theorem vr_82_26 : zrx 82 26 = some (.getfield 42, 13, 10) := by decide +kernel
theorem vr_82_29 : zrx 82 29 = some (.getfield 170, 5, 0) := by decide +kernel
theorem vr_82_32 : zrx 82 32 = some (.iload_n 2, 0, 0) := by decide +kernel
theorem vr_82_33 : zrx 82 33 = some (.aaload, 0, 0) := by decide +kernel
theorem vr_82_34 : zrx 82 34 = some (.getfield 255, 3, 1) := by decide +kernel
theorem vr_82_37 : zrx 82 37 = some (.invokevirtual 285, 38, 100) := by decide +kernel
theorem vr_82_40 : zrx 82 40 = some (.ireturn, 0, 0) := by decide +kernel
theorem vr_83_0 : zrx 83 0 = some (.iload_n 1, 0, 0) := by decide +kernel
theorem vr_83_1 : zrx 83 1 = some (.iconst 4, 0, 0) := by decide +kernel
theorem vr_83_2 : zrx 83 2 = some (.invokestatic 68, 96, 0) := by decide +kernel
theorem vr_83_5 : zrx 83 5 = some (.iload_n 2, 0, 0) := by decide +kernel
theorem vr_83_6 : zrx 83 6 = some (.iconst 0, 0, 0) := by decide +kernel
theorem vr_83_7 : zrx 83 7 = some (.bipush 8, 0, 0) := by decide +kernel
theorem vr_83_9 : zrx 83 9 = some (.invokestatic 72, 97, 0) := by decide +kernel
theorem vr_83_12 : zrx 83 12 = some (.aload_n 0, 0, 0) := by decide +kernel
theorem vr_83_13 : zrx 83 13 = some (.getfield 49, 13, 11) := by decide +kernel
theorem vr_83_16 : zrx 83 16 = some (.getfield 179, 11, 0) := by decide +kernel
theorem vr_83_19 : zrx 83 19 = some (.iload_n 1, 0, 0) := by decide +kernel
theorem vr_83_20 : zrx 83 20 = some (.aaload, 0, 0) := by decide +kernel
theorem vr_83_21 : zrx 83 21 = some (.astore_n 3, 0, 0) := by decide +kernel
theorem vr_83_22 : zrx 83 22 = some (.iload_n 2, 0, 0) := by decide +kernel
theorem vr_83_23 : zrx 83 23 = some (.iconst 4, 0, 0) := by decide +kernel
theorem vr_83_24 : zrx 83 24 = some (.if_icmp .ge 10, 0, 0) := by decide +kernel
theorem vr_83_27 : zrx 83 27 = some (.aload_n 3, 0, 0) := by decide +kernel
theorem vr_83_28 : zrx 83 28 = some (.getfield 191, 9, 0) := by decide +kernel
theorem vr_83_31 : zrx 83 31 = some (.iload_n 2, 0, 0) := by decide +kernel
theorem vr_83_32 : zrx 83 32 = some (.iaload, 0, 0) := by decide +kernel
theorem vr_83_33 : zrx 83 33 = some (.ireturn, 0, 0) := by decide +kernel
theorem vr_83_34 : zrx 83 34 = some (.iload_n 2, 0, 0) := by decide +kernel
theorem vr_83_35 : zrx 83 35 = some (.tableswitch 53 4 7 #[29, 34, 39, 46], 0, 0) := by decide +kernel
theorem vr_83_64 : zrx 83 64 = some (.aload_n 3, 0, 0) := by decide +kernel
theorem vr_83_65 : zrx 83 65 = some (.getfield 194, 9, 2) := by decide +kernel
theorem vr_83_68 : zrx 83 68 = some (.ireturn, 0, 0) := by decide +kernel
theorem vr_83_69 : zrx 83 69 = some (.aload_n 3, 0, 0) := by decide +kernel
theorem vr_83_70 : zrx 83 70 = some (.getfield 197, 9, 3) := by decide +kernel
theorem vr_83_73 : zrx 83 73 = some (.ireturn, 0, 0) := by decide +kernel
theorem vr_83_74 : zrx 83 74 = some (.aload_n 3, 0, 0) := by decide +kernel
theorem vr_83_75 : zrx 83 75 = some (.getfield 183, 9, 1) := by decide +kernel
theorem vr_83_78 : zrx 83 78 = some (.iconst 0, 0, 0) := by decide +kernel
theorem vr_83_79 : zrx 83 79 = some (.iaload, 0, 0) := by decide +kernel
theorem vr_83_80 : zrx 83 80 = some (.ireturn, 0, 0) := by decide +kernel
theorem vr_83_81 : zrx 83 81 = some (.aload_n 3, 0, 0) := by decide +kernel
theorem vr_83_82 : zrx 83 82 = some (.getfield 183, 9, 1) := by decide +kernel
theorem vr_83_85 : zrx 83 85 = some (.iconst 1, 0, 0) := by decide +kernel
theorem vr_83_86 : zrx 83 86 = some (.iaload, 0, 0) := by decide +kernel
theorem vr_83_87 : zrx 83 87 = some (.ireturn, 0, 0) := by decide +kernel
theorem vr_83_88 : zrx 83 88 = some (.aload_n 3, 0, 0) := by decide +kernel
theorem vr_83_89 : zrx 83 89 = some (.getfield 183, 9, 1) := by decide +kernel
theorem vr_83_92 : zrx 83 92 = some (.iconst 2, 0, 0) := by decide +kernel
theorem vr_83_93 : zrx 83 93 = some (.iaload, 0, 0) := by decide +kernel
theorem vr_83_94 : zrx 83 94 = some (.ireturn, 0, 0) := by decide +kernel
theorem vr_91_0 : zrx 91 0 = some (.iload_n 1, 0, 0) := by decide +kernel
theorem vr_91_1 : zrx 91 1 = some (.aload_n 0, 0, 0) := by decide +kernel
theorem vr_91_2 : zrx 91 2 = some (.getfield 42, 13, 10) := by decide +kernel
theorem vr_91_5 : zrx 91 5 = some (.getfield 165, 5, 2) := by decide +kernel
theorem vr_91_8 : zrx 91 8 = some (.invokestatic 68, 96, 0) := by decide +kernel
theorem vr_91_11 : zrx 91 11 = some (.iload_n 2, 0, 0) := by decide +kernel
theorem vr_91_12 : zrx 91 12 = some (.iconst 3, 0, 0) := by decide +kernel
theorem vr_91_13 : zrx 91 13 = some (.invokestatic 68, 96, 0) := by decide +kernel
theorem vr_91_16 : zrx 91 16 = some (.aload_n 0, 0, 0) := by decide +kernel
theorem vr_91_17 : zrx 91 17 = some (.getfield 49, 13, 11) := by decide +kernel
theorem vr_91_20 : zrx 91 20 = some (.iload_n 2, 0, 0) := by decide +kernel
theorem vr_91_21 : zrx 91 21 = some (.aload_n 0, 0, 0) := by decide +kernel
theorem vr_91_22 : zrx 91 22 = some (.getfield 42, 13, 10) := by decide +kernel
theorem vr_91_25 : zrx 91 25 = some (.getfield 170, 5, 0) := by decide +kernel
theorem vr_91_28 : zrx 91 28 = some (.iload_n 1, 0, 0) := by decide +kernel
theorem vr_91_29 : zrx 91 29 = some (.aaload, 0, 0) := by decide +kernel
theorem vr_91_30 : zrx 91 30 = some (.iload_n 3, 0, 0) := by decide +kernel
theorem vr_91_31 : zrx 91 31 = some (.invokevirtual 350, 51, 120) := by decide +kernel
theorem vr_91_34 : zrx 91 34 = some (.ireturn, 0, 0) := by decide +kernel
theorem vr_186_0 : zrx 186 0 = some (.aload_n 0, 0, 0) := by decide +kernel
theorem vr_186_1 : zrx 186 1 = some (.iconst 0, 0, 0) := by decide +kernel
theorem vr_186_2 : zrx 186 2 = some (.putfield 55, 18, 0) := by decide +kernel
theorem vr_186_5 : zrx 186 5 = some (.iload_n 1, 0, 0) := by decide +kernel
theorem vr_186_6 : zrx 186 6 = some (.iconst 0, 0, 0) := by decide +kernel
theorem vr_186_7 : zrx 186 7 = some (.iconst 3, 0, 0) := by decide +kernel
theorem vr_186_8 : zrx 186 8 = some (.invokestatic 209, 132, 0) := by decide +kernel
theorem vr_186_11 : zrx 186 11 = some (.ifCond .eq 11, 0, 0) := by decide +kernel
theorem vr_186_14 : zrx 186 14 = some (.aload_n 0, 0, 0) := by decide +kernel
theorem vr_186_15 : zrx 186 15 = some (.iload_n 2, 0, 0) := by decide +kernel
theorem vr_186_16 : zrx 186 16 = some (.invokevirtual 256, 158, 190) := by decide +kernel
theorem vr_186_19 : zrx 186 19 = some (.ifCond .ne 9, 0, 0) := by decide +kernel
theorem vr_186_22 : zrx 186 22 = some (.aload_n 0, 0, 0) := by decide +kernel
theorem vr_186_23 : zrx 186 23 = some (.iconst 1, 0, 0) := by decide +kernel
theorem vr_186_24 : zrx 186 24 = some (.invokevirtual 212, 131, 190) := by decide +kernel
theorem vr_186_27 : zrx 186 27 = some (.ireturn, 0, 0) := by decide +kernel
theorem vr_186_28 : zrx 186 28 = some (.aload_n 0, 0, 0) := by decide +kernel
theorem vr_186_29 : zrx 186 29 = some (.iload_n 1, 0, 0) := by decide +kernel
theorem vr_186_30 : zrx 186 30 = some (.iload_n 2, 0, 0) := by decide +kernel
theorem vr_186_31 : zrx 186 31 = some (.invokevirtual 266, 167, 190) := by decide +kernel
theorem vr_186_34 : zrx 186 34 = some (.ireturn, 0, 0) := by decide +kernel
theorem vr_187_0 : zrx 187 0 = some (.iload_n 2, 0, 0) := by decide +kernel
theorem vr_187_1 : zrx 187 1 = some (.iconst 4, 0, 0) := by decide +kernel
theorem vr_187_2 : zrx 187 2 = some (.if_icmp .ge 14, 0, 0) := by decide +kernel
theorem vr_187_5 : zrx 187 5 = some (.aload_n 0, 0, 0) := by decide +kernel
theorem vr_187_6 : zrx 187 6 = some (.getfield 43, 18, 12) := by decide +kernel
theorem vr_187_9 : zrx 187 9 = some (.iload_n 1, 0, 0) := by decide +kernel
theorem vr_187_10 : zrx 187 10 = some (.aaload, 0, 0) := by decide +kernel
theorem vr_187_11 : zrx 187 11 = some (.iload_n 2, 0, 0) := by decide +kernel
theorem vr_187_12 : zrx 187 12 = some (.iaload, 0, 0) := by decide +kernel
theorem vr_187_13 : zrx 187 13 = some (.goto 42, 0, 0) := by decide +kernel
theorem vr_187_16 : zrx 187 16 = some (.iload_n 2, 0, 0) := by decide +kernel
theorem vr_187_17 : zrx 187 17 = some (.iconst 4, 0, 0) := by decide +kernel
theorem vr_187_18 : zrx 187 18 = some (.if_icmp .ne 12, 0, 0) := by decide +kernel
theorem vr_187_21 : zrx 187 21 = some (.aload_n 0, 0, 0) := by decide +kernel
theorem vr_187_22 : zrx 187 22 = some (.getfield 46, 18, 13) := by decide +kernel
theorem vr_187_25 : zrx 187 25 = some (.iload_n 1, 0, 0) := by decide +kernel
theorem vr_187_26 : zrx 187 26 = some (.iaload, 0, 0) := by decide +kernel
theorem vr_187_27 : zrx 187 27 = some (.goto 28, 0, 0) := by decide +kernel
theorem vr_187_30 : zrx 187 30 = some (.iload_n 2, 0, 0) := by decide +kernel
theorem vr_187_31 : zrx 187 31 = some (.iconst 5, 0, 0) := by decide +kernel
theorem vr_187_32 : zrx 187 32 = some (.if_icmp .ne 12, 0, 0) := by decide +kernel
theorem vr_187_35 : zrx 187 35 = some (.aload_n 0, 0, 0) := by decide +kernel
theorem vr_187_36 : zrx 187 36 = some (.getfield 49, 18, 14) := by decide +kernel
theorem vr_187_39 : zrx 187 39 = some (.iload_n 1, 0, 0) := by decide +kernel
theorem vr_187_40 : zrx 187 40 = some (.iaload, 0, 0) := by decide +kernel
theorem vr_187_41 : zrx 187 41 = some (.goto 14, 0, 0) := by decide +kernel
theorem vr_187_44 : zrx 187 44 = some (.aload_n 0, 0, 0) := by decide +kernel
theorem vr_187_45 : zrx 187 45 = some (.getfield 40, 18, 11) := by decide +kernel
theorem vr_187_48 : zrx 187 48 = some (.iload_n 2, 0, 0) := by decide +kernel
theorem vr_187_49 : zrx 187 49 = some (.bipush 6, 0, 0) := by decide +kernel
theorem vr_187_51 : zrx 187 51 = some (.isub, 0, 0) := by decide +kernel
theorem vr_187_52 : zrx 187 52 = some (.aaload, 0, 0) := by decide +kernel
theorem vr_187_53 : zrx 187 53 = some (.iload_n 1, 0, 0) := by decide +kernel
theorem vr_187_54 : zrx 187 54 = some (.iaload, 0, 0) := by decide +kernel
theorem vr_187_55 : zrx 187 55 = some (.ireturn, 0, 0) := by decide +kernel
theorem vr_188_0 : zrx 188 0 = some (.aload_n 0, 0, 0) := by decide +kernel
theorem vr_188_1 : zrx 188 1 = some (.iconst 0, 0, 0) := by decide +kernel
theorem vr_188_2 : zrx 188 2 = some (.putfield 55, 18, 0) := by decide +kernel
theorem vr_188_5 : zrx 188 5 = some (.iload_n 1, 0, 0) := by decide +kernel
theorem vr_188_6 : zrx 188 6 = some (.iconst 0, 0, 0) := by decide +kernel
theorem vr_188_7 : zrx 188 7 = some (.iconst 3, 0, 0) := by decide +kernel
theorem vr_188_8 : zrx 188 8 = some (.invokestatic 209, 132, 0) := by decide +kernel
theorem vr_188_11 : zrx 188 11 = some (.ifCond .ne 9, 0, 0) := by decide +kernel
theorem vr_188_14 : zrx 188 14 = some (.aload_n 0, 0, 0) := by decide +kernel
theorem vr_188_15 : zrx 188 15 = some (.iconst 1, 0, 0) := by decide +kernel
theorem vr_188_16 : zrx 188 16 = some (.invokevirtual 212, 131, 190) := by decide +kernel
theorem vr_188_19 : zrx 188 19 = some (.ireturn, 0, 0) := by decide +kernel
theorem vr_188_20 : zrx 188 20 = some (.iload_n 2, 0, 0) := by decide +kernel
theorem vr_188_21 : zrx 188 21 = some (.iconst 0, 0, 0) := by decide +kernel
theorem vr_188_22 : zrx 188 22 = some (.bipush 8, 0, 0) := by decide +kernel
theorem vr_188_24 : zrx 188 24 = some (.invokestatic 209, 132, 0) := by decide +kernel
theorem vr_188_27 : zrx 188 27 = some (.ifCond .ne 9, 0, 0) := by decide +kernel
theorem vr_188_30 : zrx 188 30 = some (.aload_n 0, 0, 0) := by decide +kernel
theorem vr_188_31 : zrx 188 31 = some (.iconst 2, 0, 0) := by decide +kernel
theorem vr_188_32 : zrx 188 32 = some (.invokevirtual 212, 131, 190) := by decide +kernel
theorem vr_188_35 : zrx 188 35 = some (.ireturn, 0, 0) := by decide +kernel
theorem vr_188_36 : zrx 188 36 = some (.aload_n 0, 0, 0) := by decide +kernel
theorem vr_188_37 : zrx 188 37 = some (.iload_n 1, 0, 0) := by decide +kernel
theorem vr_188_38 : zrx 188 38 = some (.iload_n 2, 0, 0) := by decide +kernel
theorem vr_188_39 : zrx 188 39 = some (.invokevirtual 344, 187, 190) := by decide +kernel
theorem vr_188_42 : zrx 188 42 = some (.ireturn, 0, 0) := by decide +kernel
theorem vr_202_0 : zrx 202 0 = some (.aload_n 0, 0, 0) := by decide +kernel
theorem vr_202_1 : zrx 202 1 = some (.iconst 0, 0, 0) := by decide +kernel
theorem vr_202_2 : zrx 202 2 = some (.putfield 55, 18, 0) := by decide +kernel
theorem vr_202_5 : zrx 202 5 = some (.aload_n 0, 0, 0) := by decide +kernel
theorem vr_202_6 : zrx 202 6 = some (.iload_n 1, 0, 0) := by decide +kernel
theorem vr_202_7 : zrx 202 7 = some (.invokevirtual 256, 158, 190) := by decide +kernel
theorem vr_202_10 : zrx 202 10 = some (.ifCond .eq 12, 0, 0) := by decide +kernel
theorem vr_202_13 : zrx 202 13 = some (.iload_n 2, 0, 0) := by decide +kernel
theorem vr_202_14 : zrx 202 14 = some (.iconst 0, 0, 0) := by decide +kernel
theorem vr_202_15 : zrx 202 15 = some (.iconst 2, 0, 0) := by decide +kernel
theorem vr_202_16 : zrx 202 16 = some (.invokestatic 209, 132, 0) := by decide +kernel
theorem vr_202_19 : zrx 202 19 = some (.ifCond .ne 9, 0, 0) := by decide +kernel
theorem vr_202_22 : zrx 202 22 = some (.aload_n 0, 0, 0) := by decide +kernel
theorem vr_202_23 : zrx 202 23 = some (.iconst 1, 0, 0) := by decide +kernel
theorem vr_202_24 : zrx 202 24 = some (.invokevirtual 212, 131, 190) := by decide +kernel
theorem vr_202_27 : zrx 202 27 = some (.ireturn, 0, 0) := by decide +kernel
theorem vr_202_28 : zrx 202 28 = some (.aload_n 0, 0, 0) := by decide +kernel
theorem vr_202_29 : zrx 202 29 = some (.iload_n 1, 0, 0) := by decide +kernel
theorem vr_202_30 : zrx 202 30 = some (.iload_n 2, 0, 0) := by decide +kernel
theorem vr_202_31 : zrx 202 31 = some (.iload_n 3, 0, 0) := by decide +kernel
theorem vr_202_32 : zrx 202 32 = some (.invokevirtual 269, 168, 190) := by decide +kernel
theorem vr_202_35 : zrx 202 35 = some (.ireturn, 0, 0) := by decide +kernel
theorem vr_232_0 : zrx 232 0 = some (.aload_n 3, 0, 0) := by decide +kernel
theorem vr_232_1 : zrx 232 1 = some (.aload_n 0, 0, 0) := by decide +kernel
theorem vr_232_2 : zrx 232 2 = some (.iload_n 1, 0, 0) := by decide +kernel
theorem vr_232_3 : zrx 232 3 = some (.iload_n 2, 0, 0) := by decide +kernel
theorem vr_232_4 : zrx 232 4 = some (.invokevirtual 99, 82, 140) := by decide +kernel
theorem vr_232_7 : zrx 232 7 = some (.i2l, 0, 0) := by decide +kernel
theorem vr_232_8 : zrx 232 8 = some (.putfield 13, 14, 1000) := by decide +kernel
theorem vr_232_11 : zrx 232 11 = some (.goto 7, 0, 0) := by decide +kernel
theorem vr_232_14 : zrx 232 14 = some (.astore 4, 0, 0) := by decide +kernel
theorem vr_232_16 : zrx 232 16 = some (.iconst 1, 0, 0) := by decide +kernel
theorem vr_232_17 : zrx 232 17 = some (.ireturn, 0, 0) := by decide +kernel
theorem vr_232_18 : zrx 232 18 = some (.iconst 0, 0, 0) := by decide +kernel
theorem vr_232_19 : zrx 232 19 = some (.ireturn, 0, 0) := by decide +kernel
theorem vr_233_0 : zrx 233 0 = some (.aload_n 3, 0, 0) := by decide +kernel
theorem vr_233_1 : zrx 233 1 = some (.aload_n 0, 0, 0) := by decide +kernel
theorem vr_233_2 : zrx 233 2 = some (.iload_n 1, 0, 0) := by decide +kernel
theorem vr_233_3 : zrx 233 3 = some (.iload_n 2, 0, 0) := by decide +kernel
theorem vr_233_4 : zrx 233 4 = some (.invokevirtual 102, 83, 140) := by decide +kernel
theorem vr_233_7 : zrx 233 7 = some (.i2l, 0, 0) := by decide +kernel
theorem vr_233_8 : zrx 233 8 = some (.putfield 13, 14, 1000) := by decide +kernel
theorem vr_233_11 : zrx 233 11 = some (.goto 11, 0, 0) := by decide +kernel
theorem vr_233_14 : zrx 233 14 = some (.astore 4, 0, 0) := by decide +kernel
theorem vr_233_16 : zrx 233 16 = some (.iconst 1, 0, 0) := by decide +kernel
theorem vr_233_17 : zrx 233 17 = some (.ireturn, 0, 0) := by decide +kernel
theorem vr_233_18 : zrx 233 18 = some (.astore 4, 0, 0) := by decide +kernel
theorem vr_233_20 : zrx 233 20 = some (.iconst 2, 0, 0) := by decide +kernel
theorem vr_233_21 : zrx 233 21 = some (.ireturn, 0, 0) := by decide +kernel
theorem vr_233_22 : zrx 233 22 = some (.iconst 0, 0, 0) := by decide +kernel
theorem vr_233_23 : zrx 233 23 = some (.ireturn, 0, 0) := by decide +kernel
theorem vr_240_0 : zrx 240 0 = some (.aload 4, 0, 0) := by decide +kernel
theorem vr_240_2 : zrx 240 2 = some (.aload_n 0, 0, 0) := by decide +kernel
theorem vr_240_3 : zrx 240 3 = some (.iload_n 1, 0, 0) := by decide +kernel
theorem vr_240_4 : zrx 240 4 = some (.iload_n 2, 0, 0) := by decide +kernel
theorem vr_240_5 : zrx 240 5 = some (.iload_n 3, 0, 0) := by decide +kernel
theorem vr_240_6 : zrx 240 6 = some (.invokevirtual 130, 91, 140) := by decide +kernel
theorem vr_240_9 : zrx 240 9 = some (.i2l, 0, 0) := by decide +kernel
theorem vr_240_10 : zrx 240 10 = some (.putfield 13, 14, 1000) := by decide +kernel
theorem vr_240_13 : zrx 240 13 = some (.goto 7, 0, 0) := by decide +kernel
theorem vr_240_16 : zrx 240 16 = some (.astore 5, 0, 0) := by decide +kernel
theorem vr_240_18 : zrx 240 18 = some (.iconst 1, 0, 0) := by decide +kernel
theorem vr_240_19 : zrx 240 19 = some (.ireturn, 0, 0) := by decide +kernel
theorem vr_240_20 : zrx 240 20 = some (.iconst 0, 0, 0) := by decide +kernel
theorem vr_240_21 : zrx 240 21 = some (.ireturn, 0, 0) := by decide +kernel
theorem vh_82_2_0 : zHit (zi 82) 2 0 = none := by decide +kernel
theorem vh_82_13_0 : zHit (zi 82) 13 0 = none := by decide +kernel
theorem vh_83_2_0 : zHit (zi 83) 2 0 = none := by decide +kernel
theorem vh_83_9_1 : zHit (zi 83) 9 1 = none := by decide +kernel
theorem vh_91_8_0 : zHit (zi 91) 8 0 = none := by decide +kernel
theorem vh_91_13_0 : zHit (zi 91) 13 0 = none := by decide +kernel
theorem vh_232_4_0 : (zHit (zi 232) 4 0).map (fun r => r.2.2.1) = some 14 := by decide +kernel
theorem vh_233_4_0 : (zHit (zi 233) 4 0).map (fun r => r.2.2.1) = some 14 := by decide +kernel
theorem vh_233_4_1 : (zHit (zi 233) 4 1).map (fun r => r.2.2.1) = some 18 := by decide +kernel
theorem vh_240_6_0 : (zHit (zi 240) 6 0).map (fun r => r.2.2.1) = some 16 := by decide +kernel
theorem C_liking (n : Nat) (f x : Int32) (h : List zC) (u : Nat) {cnt : Int32} (hS : Stc h) (hc : gF h 71 2 = some (.int cnt)) (hc2 : cnt.toInt ≤ 24) (hCl : ∀ k, k < cnt.toNatClampNeg → ∃ C : Nat, gF h (73 + 4 * k) 1 = some (.ref C) ∧ 239 ≤ C) : zL zrx zi n 82 0 [(0, .ref 16), (1, .int f), (2, .int x)] [] h u (fun o h2 _ => match o with
  | .inl v => h2 = h ∧ (iN 4 f ∧ iN cnt.toInt x) ∧ ∃ C : Nat, gF h (73 + 4 * x.toNatClampNeg) 1 = some (.ref C) ∧ v = some (.int (lkC h f.toNatClampNeg C))
  | .inr E => hExt h h2 ∧ E = 0 ∧ ¬ (iN 4 f ∧ iN cnt.toInt x)) := by
  refine zSiload (m := 1) (k := 1) vr_82_0 rfl rfl rfl (fun x3494 e3494 => ?_)
  cases e3494
  refine zSp0 (pc' := 2) (st' := .int (4) :: _) vr_82_1 rfl rfl ?_
  refine zScall vr_82_2 rfl rfl rfl (fun m3496 _ => C_num6 _ _ _ _ (m := 4) (by rfl)) (fun v3496 h3496 u3496 q3496 => ?_) (fun E3496 h3496 u3496 q3496 => ?_)
  · obtain ⟨eh3496, rfl, r1⟩ := q3496
    replace eh3496 := eh3496.symm
    subst eh3496
    show zL zrx zi _ 82 5 [(0, _), (1, _), (2, _)] [] _ _ _
    refine zSiload (m := 1) (k := 2) vr_82_5 rfl rfl rfl (fun x3497 e3497 => ?_)
    cases e3497
    refine zSaload (m := 1) (k := 0) vr_82_6 rfl rfl rfl ?_
    refine zLget vr_82_7 rfl (fun p3499 w3499 e3499 t3499 g3499 => ?_)
    cases e3499
    first | (rw [(st_16_11 hS)] at g3499; cases g3499) | (rw [(st_169_0 hS)] at g3499; cases g3499) | (rw [(st_fac hS (iN4 r1))] at g3499; cases g3499) | (rw [(st_16_10 hS)] at g3499; cases g3499) | (rw [hc] at g3499; cases g3499) | (rw [(st_71_0 hS)] at g3499; cases g3499) | (rw [(st_art hS n24)] at g3499; cases g3499) | (rw [hC] at g3499; cases g3499) | skip
    refine zLget vr_82_10 rfl (fun p3500 w3500 e3500 t3500 g3500 => ?_)
    cases e3500
    first | (rw [(st_16_11 hS)] at g3500; cases g3500) | (rw [(st_169_0 hS)] at g3500; cases g3500) | (rw [(st_fac hS (iN4 r1))] at g3500; cases g3500) | (rw [(st_16_10 hS)] at g3500; cases g3500) | (rw [hc] at g3500; cases g3500) | (rw [(st_71_0 hS)] at g3500; cases g3500) | (rw [(st_art hS n24)] at g3500; cases g3500) | (rw [hC] at g3500; cases g3500) | skip
    refine zScall vr_82_13 rfl rfl rfl (fun m3501 _ => C_num6 _ _ _ _ (m := cnt.toInt) rfl) (fun v3501 h3501 u3501 q3501 => ?_) (fun E3501 h3501 u3501 q3501 => ?_)
    · obtain ⟨eh3501, rfl, r2⟩ := q3501
      replace eh3501 := eh3501.symm
      subst eh3501
      show zL zrx zi _ 82 16 [(0, _), (1, _), (2, _)] [] _ _ _
      have n24 := n24i r2 hc2
      obtain ⟨C, hC, lC⟩ := hCl x.toNatClampNeg (by
        obtain ⟨a1, a2⟩ := r2
        show x.toInt.toNat < cnt.toInt.toNat
        omega)
      refine zSaload (m := 1) (k := 0) vr_82_16 rfl rfl rfl ?_
      refine zLget vr_82_17 rfl (fun p3503 w3503 e3503 t3503 g3503 => ?_)
      cases e3503
      first | (rw [(st_16_11 hS)] at g3503; cases g3503) | (rw [(st_169_0 hS)] at g3503; cases g3503) | (rw [(st_fac hS (iN4 r1))] at g3503; cases g3503) | (rw [(st_16_10 hS)] at g3503; cases g3503) | (rw [hc] at g3503; cases g3503) | (rw [(st_71_0 hS)] at g3503; cases g3503) | (rw [(st_art hS n24)] at g3503; cases g3503) | (rw [hC] at g3503; cases g3503) | skip
      refine zLget vr_82_20 rfl (fun p3504 w3504 e3504 t3504 g3504 => ?_)
      cases e3504
      first | (rw [(st_16_11 hS)] at g3504; cases g3504) | (rw [(st_169_0 hS)] at g3504; cases g3504) | (rw [(st_fac hS (iN4 r1))] at g3504; cases g3504) | (rw [(st_16_10 hS)] at g3504; cases g3504) | (rw [hc] at g3504; cases g3504) | (rw [(st_71_0 hS)] at g3504; cases g3504) | (rw [(st_art hS n24)] at g3504; cases g3504) | (rw [hC] at g3504; cases g3504) | skip
      refine zSiload (m := 1) (k := 1) vr_82_23 rfl rfl rfl (fun x3505 e3505 => ?_)
      cases e3505
      refine zLaald vr_82_24 rfl (fun p3506 x3506 w3506 e3506 f3506 c3506 t3506 g3506 => ?_)
      cases e3506
      cases f3506
      first | (rw [(st_16_11 hS)] at g3506; cases g3506) | (rw [(st_169_0 hS)] at g3506; cases g3506) | (rw [(st_fac hS (iN4 r1))] at g3506; cases g3506) | (rw [(st_16_10 hS)] at g3506; cases g3506) | (rw [hc] at g3506; cases g3506) | (rw [(st_71_0 hS)] at g3506; cases g3506) | (rw [(st_art hS n24)] at g3506; cases g3506) | (rw [hC] at g3506; cases g3506) | skip
      refine zSaload (m := 1) (k := 0) vr_82_25 rfl rfl rfl ?_
      refine zLget vr_82_26 rfl (fun p3508 w3508 e3508 t3508 g3508 => ?_)
      cases e3508
      first | (rw [(st_16_11 hS)] at g3508; cases g3508) | (rw [(st_169_0 hS)] at g3508; cases g3508) | (rw [(st_fac hS (iN4 r1))] at g3508; cases g3508) | (rw [(st_16_10 hS)] at g3508; cases g3508) | (rw [hc] at g3508; cases g3508) | (rw [(st_71_0 hS)] at g3508; cases g3508) | (rw [(st_art hS n24)] at g3508; cases g3508) | (rw [hC] at g3508; cases g3508) | skip
      refine zLget vr_82_29 rfl (fun p3509 w3509 e3509 t3509 g3509 => ?_)
      cases e3509
      first | (rw [(st_16_11 hS)] at g3509; cases g3509) | (rw [(st_169_0 hS)] at g3509; cases g3509) | (rw [(st_fac hS (iN4 r1))] at g3509; cases g3509) | (rw [(st_16_10 hS)] at g3509; cases g3509) | (rw [hc] at g3509; cases g3509) | (rw [(st_71_0 hS)] at g3509; cases g3509) | (rw [(st_art hS n24)] at g3509; cases g3509) | (rw [hC] at g3509; cases g3509) | skip
      refine zSiload (m := 1) (k := 2) vr_82_32 rfl rfl rfl (fun x3510 e3510 => ?_)
      cases e3510
      refine zLaald vr_82_33 rfl (fun p3511 x3511 w3511 e3511 f3511 c3511 t3511 g3511 => ?_)
      cases e3511
      cases f3511
      first | (rw [(st_16_11 hS)] at g3511; cases g3511) | (rw [(st_169_0 hS)] at g3511; cases g3511) | (rw [(st_fac hS (iN4 r1))] at g3511; cases g3511) | (rw [(st_16_10 hS)] at g3511; cases g3511) | (rw [hc] at g3511; cases g3511) | (rw [(st_71_0 hS)] at g3511; cases g3511) | (rw [(st_art hS n24)] at g3511; cases g3511) | (rw [hC] at g3511; cases g3511) | skip
      refine zLget vr_82_34 rfl (fun p3512 w3512 e3512 t3512 g3512 => ?_)
      cases e3512
      first | (rw [(st_16_11 hS)] at g3512; cases g3512) | (rw [(st_169_0 hS)] at g3512; cases g3512) | (rw [(st_fac hS (iN4 r1))] at g3512; cases g3512) | (rw [(st_16_10 hS)] at g3512; cases g3512) | (rw [hc] at g3512; cases g3512) | (rw [(st_71_0 hS)] at g3512; cases g3512) | (rw [(st_art hS n24)] at g3512; cases g3512) | (rw [hC] at g3512; cases g3512) | skip
      refine zScall vr_82_37 rfl rfl rfl (fun m3513 _ => C_likes _ _ _ _ hS (iN4 r1)) (fun v3513 h3513 u3513 q3513 => ?_) (fun E3513 h3513 u3513 q3513 => ?_)
      · obtain ⟨eh3513, z3513⟩ := q3513
        replace eh3513 := eh3513.symm
        subst eh3513
        cases z3513
        show zL zrx zi _ 82 40 [(0, _), (1, _), (2, _)] [_] _ _ _
        refine zLiret vr_82_40 rfl (fun x3514 e3514 => ?_)
        cases e3514
        exact ⟨rfl, ⟨r1, r2⟩, C, hC, rfl⟩
      · obtain ⟨-, z⟩ := q3513
        cases z
    · obtain ⟨rfl, q1, q2⟩ := q3501
      rw [zCat_no vh_82_13_0]
      exact ⟨q2, rfl, fun z => q1 z.2⟩
  · obtain ⟨rfl, q1, q2⟩ := q3496
    rw [zCat_no vh_82_2_0]
    exact ⟨q2, rfl, fun z => q1 z.1⟩
abbrev Q_Lliking (cnt : Int32) (f x : Int32) (h : List zC) : zK := fun o h2 _ => ∃ k : Int32, o = .inl (some (.int k)) ∧
  ((k = 0 ∧ (iN 4 f ∧ iN cnt.toInt x) ∧ ∃ C : Nat, gF h (73 + 4 * x.toNatClampNeg) 1 = some (.ref C) ∧ hPut h h2 238 0 (.long (lkC h f.toNatClampNeg C).toInt64)) ∨ (k = 1 ∧ ¬ (iN 4 f ∧ iN cnt.toInt x) ∧ hExt h h2))
theorem C_Lliking (n : Nat) (f x : Int32) (h : List zC) (u : Nat) {cnt : Int32} (hS : Stc h) (hc : gF h 71 2 = some (.int cnt)) (hc2 : cnt.toInt ≤ 24) (hCl : ∀ k, k < cnt.toNatClampNeg → ∃ C : Nat, gF h (73 + 4 * k) 1 = some (.ref C) ∧ 239 ≤ C) : zL zrx zi n 232 0 [(0, .ref 16), (1, .int f), (2, .int x), (3, .ref 238)] [] h u (Q_Lliking cnt f x h) := by
  refine zSaload (m := 1) (k := 3) vr_232_0 rfl rfl rfl ?_
  refine zSaload (m := 1) (k := 0) vr_232_1 rfl rfl rfl ?_
  refine zSiload (m := 1) (k := 1) vr_232_2 rfl rfl rfl (fun x3517 e3517 => ?_)
  cases e3517
  refine zSiload (m := 1) (k := 2) vr_232_3 rfl rfl rfl (fun x3518 e3518 => ?_)
  cases e3518
  refine zScall vr_232_4 rfl rfl rfl (fun m3519 _ => C_liking _ _ _ _ _ hS hc hc2 hCl) (fun v3519 h3519 u3519 q3519 => ?_) (fun E3519 h3519 u3519 q3519 => ?_)
  · obtain ⟨eh3519, k1, C3519, k2, z3519⟩ := q3519
    replace eh3519 := eh3519.symm
    subst eh3519
    cases z3519
    show zL zrx zi _ 232 7 [(0, _), (1, _), (2, _), (3, _)] [_, _] _ _ _
    refine zS1 (f := fun x => .long x.toInt64) vr_232_7 rfl rfl (fun x3520 e3520 => ?_)
    cases e3520
    refine zLput vr_232_8 rfl (fun p3521 k3521 e3521 t3521 g3521 => ?_)
    cases e3521
    have gP := g3521
    refine zSgo (t := 18) vr_232_11 rfl rfl ?_
    refine zSp0 (pc' := 19) (st' := .int (0) :: _) vr_232_18 rfl rfl ?_
    refine zLiret vr_232_19 rfl (fun x3524 e3524 => ?_)
    cases e3524
    exact ⟨_, rfl, Or.inl ⟨rfl, k1, _, k2, gP⟩⟩
  · obtain ⟨q1, rfl, z⟩ := q3519
    rw [zCat_hit (k := 4) (m := 2) vh_232_4_0 vr_232_14 rfl (by decide)]
    show zL zrx zi _ 232 16 [(0, _), (1, _), (2, _), (3, _)] [] _ _ _
    refine zSp0 (pc' := 17) (st' := .int (1) :: _) vr_232_16 rfl rfl ?_
    refine zLiret vr_232_17 rfl (fun x3526 e3526 => ?_)
    cases e3526
    exact ⟨_, rfl, Or.inr ⟨rfl, z, q1⟩⟩
theorem C_ofFaction (n : Nat) (f w : Int32) (h : List zC) (u : Nat) (hS : Stc h) : zL zrx zi n 83 0 [(0, .ref 16), (1, .int f), (2, .int w)] [] h u (fun o h2 _ => match o with
  | .inl v => h2 = h ∧ (iN 4 f ∧ rI 0 8 w) ∧ v = some (.int (ofC h f.toNatClampNeg w.toNatClampNeg))
  | .inr E => hExt h h2 ∧ ((E = 0 ∧ ¬ (iN 4 f)) ∨ (E = 1 ∧ (iN 4 f) ∧ ¬ rI 0 8 w))) := by
  refine zSiload (m := 1) (k := 1) vr_83_0 rfl rfl rfl (fun x3527 e3527 => ?_)
  cases e3527
  refine zSp0 (pc' := 2) (st' := .int (4) :: _) vr_83_1 rfl rfl ?_
  refine zScall vr_83_2 rfl rfl rfl (fun m3529 _ => C_num6 _ _ _ _ (m := 4) (by rfl)) (fun v3529 h3529 u3529 q3529 => ?_) (fun E3529 h3529 u3529 q3529 => ?_)
  · obtain ⟨eh3529, rfl, r1⟩ := q3529
    replace eh3529 := eh3529.symm
    subst eh3529
    show zL zrx zi _ 83 5 [(0, _), (1, _), (2, _)] [] _ _ _
    refine zSiload (m := 1) (k := 2) vr_83_5 rfl rfl rfl (fun x3530 e3530 => ?_)
    cases e3530
    refine zSp0 (pc' := 7) (st' := .int (0) :: _) vr_83_6 rfl rfl ?_
    refine zSp0 (pc' := 9) (st' := .int (8) :: _) vr_83_7 rfl rfl ?_
    refine zScall vr_83_9 rfl rfl rfl (fun m3533 _ => C_val _ _ _ _ _ _) (fun v3533 h3533 u3533 q3533 => ?_) (fun E3533 h3533 u3533 q3533 => ?_)
    · obtain ⟨eh3533, rfl, r2⟩ := q3533
      replace eh3533 := eh3533.symm
      subst eh3533
      show zL zrx zi _ 83 12 [(0, _), (1, _), (2, _)] [] _ _ _
      refine zSaload (m := 1) (k := 0) vr_83_12 rfl rfl rfl ?_
      refine zLget vr_83_13 rfl (fun p3535 w3535 e3535 t3535 g3535 => ?_)
      cases e3535
      first | (rw [(st_16_11 hS)] at g3535; cases g3535) | (rw [(st_169_0 hS)] at g3535; cases g3535) | (rw [(st_fac hS (iN4 r1))] at g3535; cases g3535) | (rw [(st_fm hS (iN4 r1))] at g3535; cases g3535) | (rw [(st_fs hS (iN4 r1))] at g3535; cases g3535) | skip
      refine zLget vr_83_16 rfl (fun p3536 w3536 e3536 t3536 g3536 => ?_)
      cases e3536
      first | (rw [(st_16_11 hS)] at g3536; cases g3536) | (rw [(st_169_0 hS)] at g3536; cases g3536) | (rw [(st_fac hS (iN4 r1))] at g3536; cases g3536) | (rw [(st_fm hS (iN4 r1))] at g3536; cases g3536) | (rw [(st_fs hS (iN4 r1))] at g3536; cases g3536) | skip
      refine zSiload (m := 1) (k := 1) vr_83_19 rfl rfl rfl (fun x3537 e3537 => ?_)
      cases e3537
      refine zLaald vr_83_20 rfl (fun p3538 x3538 w3538 e3538 f3538 c3538 t3538 g3538 => ?_)
      cases e3538
      cases f3538
      first | (rw [(st_16_11 hS)] at g3538; cases g3538) | (rw [(st_169_0 hS)] at g3538; cases g3538) | (rw [(st_fac hS (iN4 r1))] at g3538; cases g3538) | (rw [(st_fm hS (iN4 r1))] at g3538; cases g3538) | (rw [(st_fs hS (iN4 r1))] at g3538; cases g3538) | skip
      refine zSastore (m := 1) (k := 3) vr_83_21 rfl rfl ?_
      show zL zrx zi _ 83 22 [(3, _), (0, _), (1, _), (2, _)] [] _ _ _
      refine zSiload (m := 1) (k := 2) vr_83_22 rfl rfl rfl (fun x3540 e3540 => ?_)
      cases e3540
      refine zSp0 (pc' := 24) (st' := .int (4) :: _) vr_83_23 rfl rfl ?_
      refine zSb2 (f := fun x y => decide (y ≤ x)) (off := 10) (t := 34) vr_83_24 rfl rfl rfl (fun x3542 y3542 e3542 f3542 q3542 => ?_) (fun x3542 y3542 e3542 f3542 q3542 => ?_)
      · cases e3542
        cases f3542
        have c3542 := of_decide_eq_true q3542
        refine zSiload (m := 1) (k := 2) vr_83_34 rfl rfl rfl (fun x3543 e3543 => ?_)
        cases e3543
        refine zLsw vr_83_35 rfl (fun x3544 e3544 q3544 => ?_) (fun x3544 o3544 e3544 l3544 m3544 q3544 => ?_)
        · cases e3544
          show zL zrx zi _ 83 88 _ _ _ _ _
          refine zSaload (m := 1) (k := 3) vr_83_88 rfl rfl rfl ?_
          refine zLget vr_83_89 rfl (fun p3546 w3546 e3546 t3546 g3546 => ?_)
          cases e3546
          first | (rw [(st_16_11 hS)] at g3546; cases g3546) | (rw [(st_169_0 hS)] at g3546; cases g3546) | (rw [(st_fac hS (iN4 r1))] at g3546; cases g3546) | (rw [(st_fm hS (iN4 r1))] at g3546; cases g3546) | (rw [(st_fs hS (iN4 r1))] at g3546; cases g3546) | skip
          refine zSp0 (pc' := 93) (st' := .int (2) :: _) vr_83_92 rfl rfl ?_
          refine zLiald vr_83_93 rfl (fun p3548 x3548 w3548 e3548 f3548 c3548 t3548 g3548 => ?_)
          cases e3548
          cases f3548
          first | (rw [(st_16_11 hS)] at g3548; cases g3548) | (rw [(st_169_0 hS)] at g3548; cases g3548) | (rw [(st_fac hS (iN4 r1))] at g3548; cases g3548) | (rw [(st_fm hS (iN4 r1))] at g3548; cases g3548) | (rw [(st_fs hS (iN4 r1))] at g3548; cases g3548) | skip
          refine zLiret vr_83_94 rfl (fun x3549 e3549 => ?_)
          cases e3549
          refine ⟨rfl, ⟨r1, r2⟩, congrArg (fun z => some (Value.int z)) ?_⟩
          unfold ofC
          have yw : w.toNatClampNeg = w.toInt.toNat := rfl
          have r2a : 0 ≤ w.toInt := r2.1
          have r2b : w.toInt ≤ 8 := r2.2
          have y := c3542
          rw [i32_le, show (4 : Int32).toInt = 4 from rfl] at y
          have gg := g3548
          rw [show ((2 : Int32)).toNatClampNeg = 2 by decide] at gg
          rw [show w.toNatClampNeg = 8 by rcases q3544 with z | z <;> omega, if_neg (by decide), if_neg (by decide), if_neg (by decide), iv_of gg]
        · cases e3544
          have hx3544 : w.toInt = 4 ∨ w.toInt = 5 ∨ w.toInt = 6 ∨ w.toInt = 7 := by omega
          rcases hx3544 with w3544 | w3544 | w3544 | w3544
          · rw [w3544] at q3544
            cases (show (some (29) : Option Int) = some o3544 from q3544)
            show zL zrx zi _ 83 64 _ _ _ _ _
            refine zSaload (m := 1) (k := 3) vr_83_64 rfl rfl rfl ?_
            refine zLget vr_83_65 rfl (fun p3551 w3551 e3551 t3551 g3551 => ?_)
            cases e3551
            first | (rw [(st_16_11 hS)] at g3551; cases g3551) | (rw [(st_169_0 hS)] at g3551; cases g3551) | (rw [(st_fac hS (iN4 r1))] at g3551; cases g3551) | (rw [(st_fm hS (iN4 r1))] at g3551; cases g3551) | (rw [(st_fs hS (iN4 r1))] at g3551; cases g3551) | skip
            refine zLiret vr_83_68 rfl (fun x3552 e3552 => ?_)
            cases e3552
            refine ⟨rfl, ⟨r1, r2⟩, congrArg (fun z => some (Value.int z)) ?_⟩
            unfold ofC
            have yw : w.toNatClampNeg = w.toInt.toNat := rfl
            have r2a : 0 ≤ w.toInt := r2.1
            have r2b : w.toInt ≤ 8 := r2.2
            rw [show w.toNatClampNeg = 4 by omega, if_neg (by decide), if_pos rfl, iv_of g3551]
          · rw [w3544] at q3544
            cases (show (some (34) : Option Int) = some o3544 from q3544)
            show zL zrx zi _ 83 69 _ _ _ _ _
            refine zSaload (m := 1) (k := 3) vr_83_69 rfl rfl rfl ?_
            refine zLget vr_83_70 rfl (fun p3554 w3554 e3554 t3554 g3554 => ?_)
            cases e3554
            first | (rw [(st_16_11 hS)] at g3554; cases g3554) | (rw [(st_169_0 hS)] at g3554; cases g3554) | (rw [(st_fac hS (iN4 r1))] at g3554; cases g3554) | (rw [(st_fm hS (iN4 r1))] at g3554; cases g3554) | (rw [(st_fs hS (iN4 r1))] at g3554; cases g3554) | skip
            refine zLiret vr_83_73 rfl (fun x3555 e3555 => ?_)
            cases e3555
            refine ⟨rfl, ⟨r1, r2⟩, congrArg (fun z => some (Value.int z)) ?_⟩
            unfold ofC
            have yw : w.toNatClampNeg = w.toInt.toNat := rfl
            have r2a : 0 ≤ w.toInt := r2.1
            have r2b : w.toInt ≤ 8 := r2.2
            rw [show w.toNatClampNeg = 5 by omega, if_neg (by decide), if_neg (by decide), if_pos rfl, iv_of g3554]
          · rw [w3544] at q3544
            cases (show (some (39) : Option Int) = some o3544 from q3544)
            show zL zrx zi _ 83 74 _ _ _ _ _
            refine zSaload (m := 1) (k := 3) vr_83_74 rfl rfl rfl ?_
            refine zLget vr_83_75 rfl (fun p3557 w3557 e3557 t3557 g3557 => ?_)
            cases e3557
            first | (rw [(st_16_11 hS)] at g3557; cases g3557) | (rw [(st_169_0 hS)] at g3557; cases g3557) | (rw [(st_fac hS (iN4 r1))] at g3557; cases g3557) | (rw [(st_fm hS (iN4 r1))] at g3557; cases g3557) | (rw [(st_fs hS (iN4 r1))] at g3557; cases g3557) | skip
            refine zSp0 (pc' := 79) (st' := .int (0) :: _) vr_83_78 rfl rfl ?_
            refine zLiald vr_83_79 rfl (fun p3559 x3559 w3559 e3559 f3559 c3559 t3559 g3559 => ?_)
            cases e3559
            cases f3559
            first | (rw [(st_16_11 hS)] at g3559; cases g3559) | (rw [(st_169_0 hS)] at g3559; cases g3559) | (rw [(st_fac hS (iN4 r1))] at g3559; cases g3559) | (rw [(st_fm hS (iN4 r1))] at g3559; cases g3559) | (rw [(st_fs hS (iN4 r1))] at g3559; cases g3559) | skip
            refine zLiret vr_83_80 rfl (fun x3560 e3560 => ?_)
            cases e3560
            refine ⟨rfl, ⟨r1, r2⟩, congrArg (fun z => some (Value.int z)) ?_⟩
            unfold ofC
            have yw : w.toNatClampNeg = w.toInt.toNat := rfl
            have r2a : 0 ≤ w.toInt := r2.1
            have r2b : w.toInt ≤ 8 := r2.2
            have gg := g3559
            rw [show ((0 : Int32)).toNatClampNeg = 0 by decide] at gg
            rw [show w.toNatClampNeg = 6 by omega, if_neg (by decide), if_neg (by decide), if_neg (by decide), iv_of gg]
          · rw [w3544] at q3544
            cases (show (some (46) : Option Int) = some o3544 from q3544)
            show zL zrx zi _ 83 81 _ _ _ _ _
            refine zSaload (m := 1) (k := 3) vr_83_81 rfl rfl rfl ?_
            refine zLget vr_83_82 rfl (fun p3562 w3562 e3562 t3562 g3562 => ?_)
            cases e3562
            first | (rw [(st_16_11 hS)] at g3562; cases g3562) | (rw [(st_169_0 hS)] at g3562; cases g3562) | (rw [(st_fac hS (iN4 r1))] at g3562; cases g3562) | (rw [(st_fm hS (iN4 r1))] at g3562; cases g3562) | (rw [(st_fs hS (iN4 r1))] at g3562; cases g3562) | skip
            refine zSp0 (pc' := 86) (st' := .int (1) :: _) vr_83_85 rfl rfl ?_
            refine zLiald vr_83_86 rfl (fun p3564 x3564 w3564 e3564 f3564 c3564 t3564 g3564 => ?_)
            cases e3564
            cases f3564
            first | (rw [(st_16_11 hS)] at g3564; cases g3564) | (rw [(st_169_0 hS)] at g3564; cases g3564) | (rw [(st_fac hS (iN4 r1))] at g3564; cases g3564) | (rw [(st_fm hS (iN4 r1))] at g3564; cases g3564) | (rw [(st_fs hS (iN4 r1))] at g3564; cases g3564) | skip
            refine zLiret vr_83_87 rfl (fun x3565 e3565 => ?_)
            cases e3565
            refine ⟨rfl, ⟨r1, r2⟩, congrArg (fun z => some (Value.int z)) ?_⟩
            unfold ofC
            have yw : w.toNatClampNeg = w.toInt.toNat := rfl
            have r2a : 0 ≤ w.toInt := r2.1
            have r2b : w.toInt ≤ 8 := r2.2
            have gg := g3564
            rw [show ((1 : Int32)).toNatClampNeg = 1 by decide] at gg
            rw [show w.toNatClampNeg = 7 by omega, if_neg (by decide), if_neg (by decide), if_neg (by decide), iv_of gg]
      · cases e3542
        cases f3542
        have c3542 := ndc q3542
        refine zSaload (m := 1) (k := 3) vr_83_27 rfl rfl rfl ?_
        refine zLget vr_83_28 rfl (fun p3567 w3567 e3567 t3567 g3567 => ?_)
        cases e3567
        first | (rw [(st_16_11 hS)] at g3567; cases g3567) | (rw [(st_169_0 hS)] at g3567; cases g3567) | (rw [(st_fac hS (iN4 r1))] at g3567; cases g3567) | (rw [(st_fm hS (iN4 r1))] at g3567; cases g3567) | (rw [(st_fs hS (iN4 r1))] at g3567; cases g3567) | skip
        refine zSiload (m := 1) (k := 2) vr_83_31 rfl rfl rfl (fun x3568 e3568 => ?_)
        cases e3568
        refine zLiald vr_83_32 rfl (fun p3569 x3569 w3569 e3569 f3569 c3569 t3569 g3569 => ?_)
        cases e3569
        cases f3569
        first | (rw [(st_16_11 hS)] at g3569; cases g3569) | (rw [(st_169_0 hS)] at g3569; cases g3569) | (rw [(st_fac hS (iN4 r1))] at g3569; cases g3569) | (rw [(st_fm hS (iN4 r1))] at g3569; cases g3569) | (rw [(st_fs hS (iN4 r1))] at g3569; cases g3569) | skip
        refine zLiret vr_83_33 rfl (fun x3570 e3570 => ?_)
        cases e3570
        refine ⟨rfl, ⟨r1, r2⟩, congrArg (fun z => some (Value.int z)) ?_⟩
        unfold ofC
        have yw : w.toNatClampNeg = w.toInt.toNat := rfl
        have r2a : 0 ≤ w.toInt := r2.1
        have r2b : w.toInt ≤ 8 := r2.2
        have y := c3542
        rw [i32_le, show (4 : Int32).toInt = 4 from rfl] at y
        rw [if_pos (by omega), iv_of g3569]
    · obtain ⟨rfl, q1, q2⟩ := q3533
      rw [zCat_no vh_83_9_1]
      exact ⟨q2, Or.inr ⟨rfl, r1, q1⟩⟩
  · obtain ⟨rfl, q1, q2⟩ := q3529
    rw [zCat_no vh_83_2_0]
    exact ⟨q2, Or.inl ⟨rfl, q1⟩⟩
abbrev Q_LofFaction (f w : Int32) (h : List zC) : zK := fun o h2 _ => ∃ k : Int32, o = .inl (some (.int k)) ∧
  ((k = 0 ∧ (iN 4 f ∧ rI 0 8 w) ∧ hPut h h2 238 0 (.long (ofC h f.toNatClampNeg w.toNatClampNeg).toInt64)) ∨ (k = 1 ∧ ¬ (iN 4 f) ∧ hExt h h2) ∨ (k = 2 ∧ (iN 4 f) ∧ ¬ rI 0 8 w ∧ hExt h h2))
theorem C_LofFaction (n : Nat) (f w : Int32) (h : List zC) (u : Nat) (hS : Stc h) : zL zrx zi n 233 0 [(0, .ref 16), (1, .int f), (2, .int w), (3, .ref 238)] [] h u (Q_LofFaction f w h) := by
  refine zSaload (m := 1) (k := 3) vr_233_0 rfl rfl rfl ?_
  refine zSaload (m := 1) (k := 0) vr_233_1 rfl rfl rfl ?_
  refine zSiload (m := 1) (k := 1) vr_233_2 rfl rfl rfl (fun x3573 e3573 => ?_)
  cases e3573
  refine zSiload (m := 1) (k := 2) vr_233_3 rfl rfl rfl (fun x3574 e3574 => ?_)
  cases e3574
  refine zScall vr_233_4 rfl rfl rfl (fun m3575 _ => C_ofFaction _ _ _ _ _ hS) (fun v3575 h3575 u3575 q3575 => ?_) (fun E3575 h3575 u3575 q3575 => ?_)
  · obtain ⟨eh3575, k1, z3575⟩ := q3575
    replace eh3575 := eh3575.symm
    subst eh3575
    cases z3575
    show zL zrx zi _ 233 7 [(0, _), (1, _), (2, _), (3, _)] [_, _] _ _ _
    refine zS1 (f := fun x => .long x.toInt64) vr_233_7 rfl rfl (fun x3576 e3576 => ?_)
    cases e3576
    refine zLput vr_233_8 rfl (fun p3577 k3577 e3577 t3577 g3577 => ?_)
    cases e3577
    have gP := g3577
    refine zSgo (t := 22) vr_233_11 rfl rfl ?_
    refine zSp0 (pc' := 23) (st' := .int (0) :: _) vr_233_22 rfl rfl ?_
    refine zLiret vr_233_23 rfl (fun x3580 e3580 => ?_)
    cases e3580
    exact ⟨_, rfl, Or.inl ⟨rfl, k1, gP⟩⟩
  · obtain ⟨q1, ⟨rfl, z⟩ | ⟨rfl, z⟩⟩ := q3575
    · rw [zCat_hit (k := 4) (m := 2) vh_233_4_0 vr_233_14 rfl (by decide)]
      show zL zrx zi _ 233 16 [(0, _), (1, _), (2, _), (3, _)] [] _ _ _
      refine zSp0 (pc' := 17) (st' := .int (1) :: _) vr_233_16 rfl rfl ?_
      refine zLiret vr_233_17 rfl (fun x3582 e3582 => ?_)
      cases e3582
      exact ⟨_, rfl, Or.inr (Or.inl ⟨rfl, z, q1⟩)⟩
    · rw [zCat_hit (k := 4) (m := 2) vh_233_4_1 vr_233_18 rfl (by decide)]
      show zL zrx zi _ 233 20 [(0, _), (1, _), (2, _), (3, _)] [] _ _ _
      refine zSp0 (pc' := 21) (st' := .int (2) :: _) vr_233_20 rfl rfl ?_
      refine zLiret vr_233_21 rfl (fun x3584 e3584 => ?_)
      cases e3584
      exact ⟨_, rfl, Or.inr (Or.inr ⟨rfl, z.1, z.2, q1⟩)⟩
theorem C_wouldVote (n : Nat) (x hv rep : Int32) (h : List zC) (u : Nat) {cnt : Int32} (hS : Stc h) (hc : gF h 71 2 = some (.int cnt)) (hc2 : cnt.toInt ≤ 24) (hCl : ∀ k, k < cnt.toNatClampNeg → ∃ C : Nat, gF h (73 + 4 * k) 1 = some (.ref C) ∧ 239 ≤ C) : zL zrx zi n 91 0 [(0, .ref 16), (1, .int x), (2, .int hv), (3, .int rep)] [] h u (fun o h2 _ => match o with
  | .inl v => h2 = h ∧ (iN cnt.toInt x ∧ iN 3 hv) ∧ ∃ C : Nat, gF h (73 + 4 * x.toNatClampNeg) 1 = some (.ref C) ∧ v = some (.int (bCs (fun f => iv h (173 + 3 * f) hv.toNatClampNeg) (fun f => sideC rep (iv h (171 + 3 * f) 3) (iv h (73 + 4 * x.toNatClampNeg) 0) (lkC h f C)) 4))
  | .inr E => hExt h h2 ∧ E = 0 ∧ ¬ (iN cnt.toInt x ∧ iN 3 hv)) := by
  refine zSiload (m := 1) (k := 1) vr_91_0 rfl rfl rfl (fun x3585 e3585 => ?_)
  cases e3585
  refine zSaload (m := 1) (k := 0) vr_91_1 rfl rfl rfl ?_
  refine zLget vr_91_2 rfl (fun p3587 w3587 e3587 t3587 g3587 => ?_)
  cases e3587
  first | (rw [(st_16_11 hS)] at g3587; cases g3587) | (rw [(st_16_10 hS)] at g3587; cases g3587) | (rw [hc] at g3587; cases g3587) | (rw [(st_71_0 hS)] at g3587; cases g3587) | (rw [(st_art hS n24)] at g3587; cases g3587) | skip
  refine zLget vr_91_5 rfl (fun p3588 w3588 e3588 t3588 g3588 => ?_)
  cases e3588
  first | (rw [(st_16_11 hS)] at g3588; cases g3588) | (rw [(st_16_10 hS)] at g3588; cases g3588) | (rw [hc] at g3588; cases g3588) | (rw [(st_71_0 hS)] at g3588; cases g3588) | (rw [(st_art hS n24)] at g3588; cases g3588) | skip
  refine zScall vr_91_8 rfl rfl rfl (fun m3589 _ => C_num6 _ _ _ _ (m := cnt.toInt) rfl) (fun v3589 h3589 u3589 q3589 => ?_) (fun E3589 h3589 u3589 q3589 => ?_)
  · obtain ⟨eh3589, rfl, r1⟩ := q3589
    replace eh3589 := eh3589.symm
    subst eh3589
    show zL zrx zi _ 91 11 [(0, _), (1, _), (2, _), (3, _)] [] _ _ _
    refine zSiload (m := 1) (k := 2) vr_91_11 rfl rfl rfl (fun x3590 e3590 => ?_)
    cases e3590
    refine zSp0 (pc' := 13) (st' := .int (3) :: _) vr_91_12 rfl rfl ?_
    refine zScall vr_91_13 rfl rfl rfl (fun m3592 _ => C_num6 _ _ _ _ (m := 3) (by rfl)) (fun v3592 h3592 u3592 q3592 => ?_) (fun E3592 h3592 u3592 q3592 => ?_)
    · obtain ⟨eh3592, rfl, r2⟩ := q3592
      replace eh3592 := eh3592.symm
      subst eh3592
      show zL zrx zi _ 91 16 [(0, _), (1, _), (2, _), (3, _)] [] _ _ _
      have n24 := n24i r1 hc2
      obtain ⟨C, hC, lC⟩ := hCl x.toNatClampNeg (by
        obtain ⟨a1, a2⟩ := r1
        show x.toInt.toNat < cnt.toInt.toNat
        omega)
      refine zSaload (m := 1) (k := 0) vr_91_16 rfl rfl rfl ?_
      refine zLget vr_91_17 rfl (fun p3594 w3594 e3594 t3594 g3594 => ?_)
      cases e3594
      first | (rw [(st_16_11 hS)] at g3594; cases g3594) | (rw [(st_16_10 hS)] at g3594; cases g3594) | (rw [hc] at g3594; cases g3594) | (rw [(st_71_0 hS)] at g3594; cases g3594) | (rw [(st_art hS n24)] at g3594; cases g3594) | skip
      refine zSiload (m := 1) (k := 2) vr_91_20 rfl rfl rfl (fun x3595 e3595 => ?_)
      cases e3595
      refine zSaload (m := 1) (k := 0) vr_91_21 rfl rfl rfl ?_
      refine zLget vr_91_22 rfl (fun p3597 w3597 e3597 t3597 g3597 => ?_)
      cases e3597
      first | (rw [(st_16_11 hS)] at g3597; cases g3597) | (rw [(st_16_10 hS)] at g3597; cases g3597) | (rw [hc] at g3597; cases g3597) | (rw [(st_71_0 hS)] at g3597; cases g3597) | (rw [(st_art hS n24)] at g3597; cases g3597) | skip
      refine zLget vr_91_25 rfl (fun p3598 w3598 e3598 t3598 g3598 => ?_)
      cases e3598
      first | (rw [(st_16_11 hS)] at g3598; cases g3598) | (rw [(st_16_10 hS)] at g3598; cases g3598) | (rw [hc] at g3598; cases g3598) | (rw [(st_71_0 hS)] at g3598; cases g3598) | (rw [(st_art hS n24)] at g3598; cases g3598) | skip
      refine zSiload (m := 1) (k := 1) vr_91_28 rfl rfl rfl (fun x3599 e3599 => ?_)
      cases e3599
      refine zLaald vr_91_29 rfl (fun p3600 x3600 w3600 e3600 f3600 c3600 t3600 g3600 => ?_)
      cases e3600
      cases f3600
      first | (rw [(st_16_11 hS)] at g3600; cases g3600) | (rw [(st_16_10 hS)] at g3600; cases g3600) | (rw [hc] at g3600; cases g3600) | (rw [(st_71_0 hS)] at g3600; cases g3600) | (rw [(st_art hS n24)] at g3600; cases g3600) | skip
      refine zSiload (m := 1) (k := 3) vr_91_30 rfl rfl rfl (fun x3601 e3601 => ?_)
      cases e3601
      refine zScall vr_91_31 rfl rfl rfl (fun m3602 _ => C_bal _ _ _ _ hS hC rfl) (fun v3602 h3602 u3602 q3602 => ?_) (fun E3602 h3602 u3602 q3602 => ?_)
      · obtain ⟨eh3602, z3602⟩ := q3602
        replace eh3602 := eh3602.symm
        subst eh3602
        cases z3602
        show zL zrx zi _ 91 34 [(0, _), (1, _), (2, _), (3, _)] [_] _ _ _
        refine zLiret vr_91_34 rfl (fun x3603 e3603 => ?_)
        cases e3603
        exact ⟨rfl, ⟨r1, r2⟩, C, hC, rfl⟩
      · obtain ⟨-, z⟩ := q3602
        cases z
    · obtain ⟨rfl, q1, q2⟩ := q3592
      rw [zCat_no vh_91_13_0]
      exact ⟨q2, rfl, fun z => q1 z.2⟩
  · obtain ⟨rfl, q1, q2⟩ := q3589
    rw [zCat_no vh_91_8_0]
    exact ⟨q2, rfl, fun z => q1 z.1⟩
abbrev Q_LwouldVote (cnt : Int32) (x hv rep : Int32) (h : List zC) : zK := fun o h2 _ => ∃ k : Int32, o = .inl (some (.int k)) ∧
  ((k = 0 ∧ (iN cnt.toInt x ∧ iN 3 hv) ∧ ∃ C : Nat, gF h (73 + 4 * x.toNatClampNeg) 1 = some (.ref C) ∧ hPut h h2 238 0 (.long (bCs (fun f => iv h (173 + 3 * f) hv.toNatClampNeg) (fun f => sideC rep (iv h (171 + 3 * f) 3) (iv h (73 + 4 * x.toNatClampNeg) 0) (lkC h f C)) 4).toInt64)) ∨ (k = 1 ∧ ¬ (iN cnt.toInt x ∧ iN 3 hv) ∧ hExt h h2))
theorem C_LwouldVote (n : Nat) (x hv rep : Int32) (h : List zC) (u : Nat) {cnt : Int32} (hS : Stc h) (hc : gF h 71 2 = some (.int cnt)) (hc2 : cnt.toInt ≤ 24) (hCl : ∀ k, k < cnt.toNatClampNeg → ∃ C : Nat, gF h (73 + 4 * k) 1 = some (.ref C) ∧ 239 ≤ C) : zL zrx zi n 240 0 [(0, .ref 16), (1, .int x), (2, .int hv), (3, .int rep), (4, .ref 238)] [] h u (Q_LwouldVote cnt x hv rep h) := by
  refine zSaload (m := 2) (k := 4) vr_240_0 rfl rfl rfl ?_
  refine zSaload (m := 1) (k := 0) vr_240_2 rfl rfl rfl ?_
  refine zSiload (m := 1) (k := 1) vr_240_3 rfl rfl rfl (fun x3606 e3606 => ?_)
  cases e3606
  refine zSiload (m := 1) (k := 2) vr_240_4 rfl rfl rfl (fun x3607 e3607 => ?_)
  cases e3607
  refine zSiload (m := 1) (k := 3) vr_240_5 rfl rfl rfl (fun x3608 e3608 => ?_)
  cases e3608
  refine zScall vr_240_6 rfl rfl rfl (fun m3609 _ => C_wouldVote _ _ _ _ _ _ hS hc hc2 hCl) (fun v3609 h3609 u3609 q3609 => ?_) (fun E3609 h3609 u3609 q3609 => ?_)
  · obtain ⟨eh3609, k1, C3609, k2, z3609⟩ := q3609
    replace eh3609 := eh3609.symm
    subst eh3609
    cases z3609
    show zL zrx zi _ 240 9 [(0, _), (1, _), (2, _), (3, _), (4, _)] [_, _] _ _ _
    refine zS1 (f := fun x => .long x.toInt64) vr_240_9 rfl rfl (fun x3610 e3610 => ?_)
    cases e3610
    refine zLput vr_240_10 rfl (fun p3611 k3611 e3611 t3611 g3611 => ?_)
    cases e3611
    have gP := g3611
    refine zSgo (t := 20) vr_240_13 rfl rfl ?_
    refine zSp0 (pc' := 21) (st' := .int (0) :: _) vr_240_20 rfl rfl ?_
    refine zLiret vr_240_21 rfl (fun x3614 e3614 => ?_)
    cases e3614
    exact ⟨_, rfl, Or.inl ⟨rfl, k1, _, k2, gP⟩⟩
  · obtain ⟨q1, rfl, z⟩ := q3609
    rw [zCat_hit (k := 5) (m := 2) vh_240_6_0 vr_240_16 rfl (by decide)]
    show zL zrx zi _ 240 18 [(0, _), (1, _), (2, _), (3, _), (4, _)] [] _ _ _
    refine zSp0 (pc' := 19) (st' := .int (1) :: _) vr_240_18 rfl rfl ?_
    refine zLiret vr_240_19 rfl (fun x3616 e3616 => ?_)
    cases e3616
    exact ⟨_, rfl, Or.inr ⟨rfl, z, q1⟩⟩
abbrev Q_mliking (el : Nat) (cnt : Int32) (f x : Int32) (h : List zC) : zK := fun o h2 _ => ∃ (y : Int32) (h0 : List zC), o = .inl (some (.int y)) ∧ hPut h h0 213 0 (.int 0) ∧
  (((iN 4 f ∧ iN cnt.toInt x) ∧ h2 = h0 ∧ ∃ A : Nat, gF h el x.toNatClampNeg = some (.ref A) ∧ y = lkM h0 f.toNatClampNeg A) ∨ (¬ (iN 4 f ∧ iN cnt.toInt x) ∧ hPut h0 h2 213 0 (.int 1)))
theorem C_mliking (n : Nat) (f x : Int32) (h : List zC) (u : Nat) {el : Nat} {cnt : Int32} (hS : Stc h) (hL : gF h 225 1 = some (.ref el)) (hs : gF h 225 2 = some (.int cnt)) (h0c : 0 ≤ cnt.toInt) (h213 : ¬ el = 213) (hA : ∀ k, k < cnt.toNatClampNeg → ∃ A : Nat, gF h el k = some (.ref A) ∧ 239 ≤ A) : zL zrx zi n 186 0 [(0, .ref 213), (1, .int f), (2, .int x)] [] h u (Q_mliking el cnt f x h) := by
  refine zSaload (m := 1) (k := 0) vr_186_0 rfl rfl rfl ?_
  refine zSp0 (pc' := 2) (st' := .int (0) :: _) vr_186_1 rfl rfl ?_
  refine zLput vr_186_2 rfl (fun p3619 k3619 e3619 t3619 g3619 => ?_)
  cases e3619
  have t0 := g3619
  have hS0 := hS.thr t0
  have f0 : ∀ q k, ¬ (q = 213 ∧ k = 0) → gF k3619 q k = gF h q k := fun q k z => by rw [t0.2.1, if_neg z]
  have hs0 := (f0 225 2 (by omega)).trans hs
  have hL0 := (f0 225 1 (by omega)).trans hL
  refine zSiload (m := 1) (k := 1) vr_186_5 rfl rfl rfl (fun x3620 e3620 => ?_)
  cases e3620
  refine zSp0 (pc' := 7) (st' := .int (0) :: _) vr_186_6 rfl rfl ?_
  refine zSp0 (pc' := 8) (st' := .int (3) :: _) vr_186_7 rfl rfl ?_
  refine zScall vr_186_8 rfl rfl rfl (fun m3623 _ => C_in _ _ _ _ _ _) (fun v3623 h3623 u3623 q3623 => ?_) (fun E3623 h3623 u3623 q3623 => ?_)
  · obtain ⟨eh3623, z3623⟩ := q3623
    replace eh3623 := eh3623.symm
    subst eh3623
    cases z3623
    show zL zrx zi _ 186 11 [(0, _), (1, _), (2, _)] [_] _ _ _
    refine zSb1 (f := fun x => decide (x = 0)) (off := 11) (t := 22) vr_186_11 rfl rfl rfl (fun x3624 e3624 q3624 => ?_) (fun x3624 e3624 q3624 => ?_)
    · cases e3624
      have c3624 := of_decide_eq_true q3624
      refine zSaload (m := 1) (k := 0) vr_186_22 rfl rfl rfl ?_
      refine zSp0 (pc' := 24) (st' := .int (1) :: _) vr_186_23 rfl rfl ?_
      refine zScall vr_186_24 rfl rfl rfl (fun m3627 _ => C_no _ _ _ _ _) (fun v3627 h3627 u3627 q3627 => ?_) (fun E3627 h3627 u3627 q3627 => ?_)
      · obtain ⟨gn3627, z3627⟩ := q3627
        cases z3627
        show zL zrx zi _ 186 27 [(0, _), (1, _), (2, _)] [_] _ _ _
        refine zLiret vr_186_27 rfl (fun x3628 e3628 => ?_)
        cases e3628
        first
          | exact ⟨_, _, rfl, t0, Or.inr ⟨fun z => in_n (x := f) (hi := 3) (m := 4) (by decide) c3624 z.1, gn3627⟩⟩
          | exact ⟨_, _, rfl, t0, Or.inr ⟨fun z => isr_n h0c (Decidable.not_not.mp c3616) z.2, gn3627⟩⟩
      · obtain ⟨-, z⟩ := q3627
        cases z
    · cases e3624
      have c3624 := ndc q3624
      have rf4 : iN 4 f := in_y (x := f) (hi := 3) (m := 4) (by decide) c3624
      refine zSaload (m := 1) (k := 0) vr_186_14 rfl rfl rfl ?_
      refine zSiload (m := 1) (k := 2) vr_186_15 rfl rfl rfl (fun x3630 e3630 => ?_)
      cases e3630
      refine zScall vr_186_16 rfl rfl rfl (fun m3631 _ => C_isA _ _ _ _ hS0 hs0) (fun v3631 h3631 u3631 q3631 => ?_) (fun E3631 h3631 u3631 q3631 => ?_)
      · obtain ⟨eh3631, z3631⟩ := q3631
        replace eh3631 := eh3631.symm
        subst eh3631
        cases z3631
        show zL zrx zi _ 186 19 [(0, _), (1, _), (2, _)] [_] _ _ _
        refine zSb1 (f := fun x => decide (¬ x = 0)) (off := 9) (t := 28) vr_186_19 rfl rfl rfl (fun x3632 e3632 q3632 => ?_) (fun x3632 e3632 q3632 => ?_)
        · cases e3632
          have c3632 := of_decide_eq_true q3632
          have ra := isr_y h0c c3632
          obtain ⟨A, hA1, lA⟩ := hA x.toNatClampNeg (by
            obtain ⟨a1, a2⟩ := ra
            show x.toInt.toNat < cnt.toInt.toNat
            omega)
          have hq0 : gF k3619 el x.toNatClampNeg = some (.ref A) := (f0 el _ (fun z => h213 z.1)).trans hA1
          refine zSaload (m := 1) (k := 0) vr_186_28 rfl rfl rfl ?_
          refine zSiload (m := 1) (k := 1) vr_186_29 rfl rfl rfl (fun x3634 e3634 => ?_)
          cases e3634
          refine zSiload (m := 1) (k := 2) vr_186_30 rfl rfl rfl (fun x3635 e3635 => ?_)
          cases e3635
          refine zScall vr_186_31 rfl rfl rfl (fun m3636 _ => C_mlk _ _ _ _ _ rfl (iN4 rf4) hS0 hL0 hs0 hq0) (fun v3636 h3636 u3636 q3636 => ?_) (fun E3636 h3636 u3636 q3636 => ?_)
          · obtain ⟨eh3636, z3636⟩ := q3636
            replace eh3636 := eh3636.symm
            subst eh3636
            cases z3636
            show zL zrx zi _ 186 34 [(0, _), (1, _), (2, _)] [_] _ _ _
            refine zLiret vr_186_34 rfl (fun x3637 e3637 => ?_)
            cases e3637
            exact ⟨_, _, rfl, t0, Or.inl ⟨⟨rf4, ra⟩, rfl, A, hA1, rfl⟩⟩
          · obtain ⟨-, z⟩ := q3636
            cases z
        · cases e3632
          have c3632 := ndc q3632
          refine zSaload (m := 1) (k := 0) vr_186_22 rfl rfl rfl ?_
          refine zSp0 (pc' := 24) (st' := .int (1) :: _) vr_186_23 rfl rfl ?_
          refine zScall vr_186_24 rfl rfl rfl (fun m3640 _ => C_no _ _ _ _ _) (fun v3640 h3640 u3640 q3640 => ?_) (fun E3640 h3640 u3640 q3640 => ?_)
          · obtain ⟨gn3640, z3640⟩ := q3640
            cases z3640
            show zL zrx zi _ 186 27 [(0, _), (1, _), (2, _)] [_] _ _ _
            refine zLiret vr_186_27 rfl (fun x3641 e3641 => ?_)
            cases e3641
            first
              | exact ⟨_, _, rfl, t0, Or.inr ⟨fun z => in_n (x := f) (hi := 3) (m := 4) (by decide) c3624 z.1, gn3640⟩⟩
              | exact ⟨_, _, rfl, t0, Or.inr ⟨fun z => isr_n h0c (Decidable.not_not.mp c3632) z.2, gn3640⟩⟩
          · obtain ⟨-, z⟩ := q3640
            cases z
      · obtain ⟨-, z⟩ := q3631
        cases z
  · obtain ⟨-, z⟩ := q3623
    cases z
theorem C_mfN (n : Nat) (f w : Int32) (h : List zC) (u : Nat) (hS : Stc h) (r1 : iN 4 f) (r2 : rI 0 8 w) : zL zrx zi n 187 0 [(0, .ref 213), (1, .int f), (2, .int w)] [] h u (fun o h2 _ => h2 = h ∧ o = .inl (some (.int (ofM h f.toNatClampNeg w.toNatClampNeg)))) := by
  refine zSiload (m := 1) (k := 2) vr_187_0 rfl rfl rfl (fun x3642 e3642 => ?_)
  cases e3642
  refine zSp0 (pc' := 2) (st' := .int (4) :: _) vr_187_1 rfl rfl ?_
  refine zSb2 (f := fun x y => decide (y ≤ x)) (off := 14) (t := 16) vr_187_2 rfl rfl rfl (fun x3644 y3644 e3644 f3644 q3644 => ?_) (fun x3644 y3644 e3644 f3644 q3644 => ?_)
  · cases e3644
    cases f3644
    have c3644 := of_decide_eq_true q3644
    refine zSiload (m := 1) (k := 2) vr_187_16 rfl rfl rfl (fun x3645 e3645 => ?_)
    cases e3645
    refine zSp0 (pc' := 18) (st' := .int (4) :: _) vr_187_17 rfl rfl ?_
    refine zSb2 (f := fun x y => decide (¬ x = y)) (off := 12) (t := 30) vr_187_18 rfl rfl rfl (fun x3647 y3647 e3647 f3647 q3647 => ?_) (fun x3647 y3647 e3647 f3647 q3647 => ?_)
    · cases e3647
      cases f3647
      have c3647 := of_decide_eq_true q3647
      refine zSiload (m := 1) (k := 2) vr_187_30 rfl rfl rfl (fun x3648 e3648 => ?_)
      cases e3648
      refine zSp0 (pc' := 32) (st' := .int (5) :: _) vr_187_31 rfl rfl ?_
      refine zSb2 (f := fun x y => decide (¬ x = y)) (off := 12) (t := 44) vr_187_32 rfl rfl rfl (fun x3650 y3650 e3650 f3650 q3650 => ?_) (fun x3650 y3650 e3650 f3650 q3650 => ?_)
      · cases e3650
        cases f3650
        have c3650 := of_decide_eq_true q3650
        refine zSaload (m := 1) (k := 0) vr_187_44 rfl rfl rfl ?_
        refine zLget vr_187_45 rfl (fun p3652 w3652 e3652 t3652 g3652 => ?_)
        cases e3652
        first | (rw [(st_213_12 hS)] at g3652; cases g3652) | (rw [(st_mr hS (iN4 r1))] at g3652; cases g3652) | (rw [(st_213_13 hS)] at g3652; cases g3652) | (rw [(st_213_14 hS)] at g3652; cases g3652) | (rw [(st_213_11 hS)] at g3652; cases g3652) | (rw [hH] at g3652; cases g3652) | skip
        refine zSiload (m := 1) (k := 2) vr_187_48 rfl rfl rfl (fun x3653 e3653 => ?_)
        cases e3653
        refine zSp0 (pc' := 51) (st' := .int (6) :: _) vr_187_49 rfl rfl ?_
        refine zS2 (f := fun x y => .int (x - y)) vr_187_51 rfl rfl (fun x3655 y3655 e3655 f3655 => ?_)
        cases e3655
        cases f3655
        have y4 := c3644
        have n4 := c3647
        have n5 := c3650
        rw [i32_le, show (4 : Int32).toInt = 4 from rfl] at y4
        have a4 : ¬ w.toInt = 4 := fun z => n4 (Int32.toInt_inj.mp (by rw [z]; rfl))
        have a5 : ¬ w.toInt = 5 := fun z => n5 (Int32.toInt_inj.mp (by rw [z]; rfl))
        have r2a : 0 ≤ w.toInt := r2.1
        have r2b : w.toInt ≤ 8 := r2.2
        have w6 : (w - 6).toInt = w.toInt - 6 := by
          rw [Int32.toInt_sub, show (6 : Int32).toInt = 6 from rfl]
          exact Int.bmod_eq_of_le (by omega) (by omega)
        have n6 : (w - 6).toNatClampNeg = w.toNatClampNeg - 6 := by
          show (w - 6).toInt.toNat = w.toInt.toNat - 6
          omega
        have hH : gF h 226 (w - 6).toNatClampNeg = some (.ref (227 + (w.toNatClampNeg - 6))) := by
          rw [n6]
          exact st_hs hS (by
            show w.toInt.toNat - 6 < 3
            omega)
        refine zLaald vr_187_52 rfl (fun p3656 x3656 w3656 e3656 f3656 c3656 t3656 g3656 => ?_)
        cases e3656
        cases f3656
        first | (rw [(st_213_12 hS)] at g3656; cases g3656) | (rw [(st_mr hS (iN4 r1))] at g3656; cases g3656) | (rw [(st_213_13 hS)] at g3656; cases g3656) | (rw [(st_213_14 hS)] at g3656; cases g3656) | (rw [(st_213_11 hS)] at g3656; cases g3656) | (rw [hH] at g3656; cases g3656) | skip
        refine zSiload (m := 1) (k := 1) vr_187_53 rfl rfl rfl (fun x3657 e3657 => ?_)
        cases e3657
        refine zLiald vr_187_54 rfl (fun p3658 x3658 w3658 e3658 f3658 c3658 t3658 g3658 => ?_)
        cases e3658
        cases f3658
        first | (rw [(st_213_12 hS)] at g3658; cases g3658) | (rw [(st_mr hS (iN4 r1))] at g3658; cases g3658) | (rw [(st_213_13 hS)] at g3658; cases g3658) | (rw [(st_213_14 hS)] at g3658; cases g3658) | (rw [(st_213_11 hS)] at g3658; cases g3658) | (rw [hH] at g3658; cases g3658) | skip
        refine zLiret vr_187_55 rfl (fun x3659 e3659 => ?_)
        cases e3659
        refine ⟨rfl, congrArg (fun z => Sum.inl (some (Value.int z))) ?_⟩
        unfold ofM
        have yw : w.toNatClampNeg = w.toInt.toNat := rfl
        have r2a : 0 ≤ w.toInt := r2.1
        have r2b : w.toInt ≤ 8 := r2.2
        first
          | (have gd : w < 4 := Int32.not_le.mp c3644
             rw [i32_lt, show (4 : Int32).toInt = 4 from rfl] at gd
             rw [if_pos (by omega), iv_of g3591])
          | (have gd : w = 4 := Decidable.not_not.mp c3647
             have e : w.toNatClampNeg = 4 := by rw [gd]; rfl
             rw [e, if_neg (by decide), if_pos rfl, iv_of g3508])
          | (have gd : w = 5 := Decidable.not_not.mp c3650
             have e : w.toNatClampNeg = 5 := by rw [gd]; rfl
             rw [e, if_neg (by decide), if_neg (by decide), if_pos rfl, iv_of g3514])
          | (rw [if_neg (by omega), if_neg (by omega), if_neg (by omega), iv_of g3658])
      · cases e3650
        cases f3650
        have c3650 := ndc q3650
        refine zSaload (m := 1) (k := 0) vr_187_35 rfl rfl rfl ?_
        refine zLget vr_187_36 rfl (fun p3661 w3661 e3661 t3661 g3661 => ?_)
        cases e3661
        first | (rw [(st_213_12 hS)] at g3661; cases g3661) | (rw [(st_mr hS (iN4 r1))] at g3661; cases g3661) | (rw [(st_213_13 hS)] at g3661; cases g3661) | (rw [(st_213_14 hS)] at g3661; cases g3661) | (rw [(st_213_11 hS)] at g3661; cases g3661) | (rw [hH] at g3661; cases g3661) | skip
        refine zSiload (m := 1) (k := 1) vr_187_39 rfl rfl rfl (fun x3662 e3662 => ?_)
        cases e3662
        refine zLiald vr_187_40 rfl (fun p3663 x3663 w3663 e3663 f3663 c3663 t3663 g3663 => ?_)
        cases e3663
        cases f3663
        first | (rw [(st_213_12 hS)] at g3663; cases g3663) | (rw [(st_mr hS (iN4 r1))] at g3663; cases g3663) | (rw [(st_213_13 hS)] at g3663; cases g3663) | (rw [(st_213_14 hS)] at g3663; cases g3663) | (rw [(st_213_11 hS)] at g3663; cases g3663) | (rw [hH] at g3663; cases g3663) | skip
        refine zSgo (t := 55) vr_187_41 rfl rfl ?_
        refine zLiret vr_187_55 rfl (fun x3665 e3665 => ?_)
        cases e3665
        refine ⟨rfl, congrArg (fun z => Sum.inl (some (Value.int z))) ?_⟩
        unfold ofM
        have yw : w.toNatClampNeg = w.toInt.toNat := rfl
        have r2a : 0 ≤ w.toInt := r2.1
        have r2b : w.toInt ≤ 8 := r2.2
        first
          | (have gd : w < 4 := Int32.not_le.mp c3644
             rw [i32_lt, show (4 : Int32).toInt = 4 from rfl] at gd
             rw [if_pos (by omega), iv_of g3591])
          | (have gd : w = 4 := Decidable.not_not.mp c3647
             have e : w.toNatClampNeg = 4 := by rw [gd]; rfl
             rw [e, if_neg (by decide), if_pos rfl, iv_of g3508])
          | (have gd : w = 5 := Decidable.not_not.mp c3650
             have e : w.toNatClampNeg = 5 := by rw [gd]; rfl
             rw [e, if_neg (by decide), if_neg (by decide), if_pos rfl, iv_of g3663])
          | (rw [if_neg (by omega), if_neg (by omega), if_neg (by omega), iv_of g3658])
    · cases e3647
      cases f3647
      have c3647 := ndc q3647
      refine zSaload (m := 1) (k := 0) vr_187_21 rfl rfl rfl ?_
      refine zLget vr_187_22 rfl (fun p3667 w3667 e3667 t3667 g3667 => ?_)
      cases e3667
      first | (rw [(st_213_12 hS)] at g3667; cases g3667) | (rw [(st_mr hS (iN4 r1))] at g3667; cases g3667) | (rw [(st_213_13 hS)] at g3667; cases g3667) | (rw [(st_213_14 hS)] at g3667; cases g3667) | (rw [(st_213_11 hS)] at g3667; cases g3667) | (rw [hH] at g3667; cases g3667) | skip
      refine zSiload (m := 1) (k := 1) vr_187_25 rfl rfl rfl (fun x3668 e3668 => ?_)
      cases e3668
      refine zLiald vr_187_26 rfl (fun p3669 x3669 w3669 e3669 f3669 c3669 t3669 g3669 => ?_)
      cases e3669
      cases f3669
      first | (rw [(st_213_12 hS)] at g3669; cases g3669) | (rw [(st_mr hS (iN4 r1))] at g3669; cases g3669) | (rw [(st_213_13 hS)] at g3669; cases g3669) | (rw [(st_213_14 hS)] at g3669; cases g3669) | (rw [(st_213_11 hS)] at g3669; cases g3669) | (rw [hH] at g3669; cases g3669) | skip
      refine zSgo (t := 55) vr_187_27 rfl rfl ?_
      refine zLiret vr_187_55 rfl (fun x3671 e3671 => ?_)
      cases e3671
      refine ⟨rfl, congrArg (fun z => Sum.inl (some (Value.int z))) ?_⟩
      unfold ofM
      have yw : w.toNatClampNeg = w.toInt.toNat := rfl
      have r2a : 0 ≤ w.toInt := r2.1
      have r2b : w.toInt ≤ 8 := r2.2
      first
        | (have gd : w < 4 := Int32.not_le.mp c3644
           rw [i32_lt, show (4 : Int32).toInt = 4 from rfl] at gd
           rw [if_pos (by omega), iv_of g3591])
        | (have gd : w = 4 := Decidable.not_not.mp c3647
           have e : w.toNatClampNeg = 4 := by rw [gd]; rfl
           rw [e, if_neg (by decide), if_pos rfl, iv_of g3669])
        | (have gd : w = 5 := Decidable.not_not.mp c3650
           have e : w.toNatClampNeg = 5 := by rw [gd]; rfl
           rw [e, if_neg (by decide), if_neg (by decide), if_pos rfl, iv_of g3663])
        | (rw [if_neg (by omega), if_neg (by omega), if_neg (by omega), iv_of g3658])
  · cases e3644
    cases f3644
    have c3644 := ndc q3644
    refine zSaload (m := 1) (k := 0) vr_187_5 rfl rfl rfl ?_
    refine zLget vr_187_6 rfl (fun p3673 w3673 e3673 t3673 g3673 => ?_)
    cases e3673
    first | (rw [(st_213_12 hS)] at g3673; cases g3673) | (rw [(st_mr hS (iN4 r1))] at g3673; cases g3673) | (rw [(st_213_13 hS)] at g3673; cases g3673) | (rw [(st_213_14 hS)] at g3673; cases g3673) | (rw [(st_213_11 hS)] at g3673; cases g3673) | (rw [hH] at g3673; cases g3673) | skip
    refine zSiload (m := 1) (k := 1) vr_187_9 rfl rfl rfl (fun x3674 e3674 => ?_)
    cases e3674
    refine zLaald vr_187_10 rfl (fun p3675 x3675 w3675 e3675 f3675 c3675 t3675 g3675 => ?_)
    cases e3675
    cases f3675
    first | (rw [(st_213_12 hS)] at g3675; cases g3675) | (rw [(st_mr hS (iN4 r1))] at g3675; cases g3675) | (rw [(st_213_13 hS)] at g3675; cases g3675) | (rw [(st_213_14 hS)] at g3675; cases g3675) | (rw [(st_213_11 hS)] at g3675; cases g3675) | (rw [hH] at g3675; cases g3675) | skip
    refine zSiload (m := 1) (k := 2) vr_187_11 rfl rfl rfl (fun x3676 e3676 => ?_)
    cases e3676
    refine zLiald vr_187_12 rfl (fun p3677 x3677 w3677 e3677 f3677 c3677 t3677 g3677 => ?_)
    cases e3677
    cases f3677
    first | (rw [(st_213_12 hS)] at g3677; cases g3677) | (rw [(st_mr hS (iN4 r1))] at g3677; cases g3677) | (rw [(st_213_13 hS)] at g3677; cases g3677) | (rw [(st_213_14 hS)] at g3677; cases g3677) | (rw [(st_213_11 hS)] at g3677; cases g3677) | (rw [hH] at g3677; cases g3677) | skip
    refine zSgo (t := 55) vr_187_13 rfl rfl ?_
    refine zLiret vr_187_55 rfl (fun x3679 e3679 => ?_)
    cases e3679
    refine ⟨rfl, congrArg (fun z => Sum.inl (some (Value.int z))) ?_⟩
    unfold ofM
    have yw : w.toNatClampNeg = w.toInt.toNat := rfl
    have r2a : 0 ≤ w.toInt := r2.1
    have r2b : w.toInt ≤ 8 := r2.2
    first
      | (have gd : w < 4 := Int32.not_le.mp c3644
         rw [i32_lt, show (4 : Int32).toInt = 4 from rfl] at gd
         rw [if_pos (by omega), iv_of g3677])
      | (have gd : w = 4 := Decidable.not_not.mp c3647
         have e : w.toNatClampNeg = 4 := by rw [gd]; rfl
         rw [e, if_neg (by decide), if_pos rfl, iv_of g3669])
      | (have gd : w = 5 := Decidable.not_not.mp c3650
         have e : w.toNatClampNeg = 5 := by rw [gd]; rfl
         rw [e, if_neg (by decide), if_neg (by decide), if_pos rfl, iv_of g3663])
      | (rw [if_neg (by omega), if_neg (by omega), if_neg (by omega), iv_of g3658])
abbrev Q_mofFaction (f w : Int32) (h : List zC) : zK := fun o h2 _ => ∃ (y : Int32) (h0 : List zC), o = .inl (some (.int y)) ∧ hPut h h0 213 0 (.int 0) ∧
  (((iN 4 f ∧ rI 0 8 w) ∧ h2 = h0 ∧ y = ofM h0 f.toNatClampNeg w.toNatClampNeg) ∨ (¬ (iN 4 f) ∧ hPut h0 h2 213 0 (.int 1)) ∨ ((iN 4 f) ∧ ¬ rI 0 8 w ∧ hPut h0 h2 213 0 (.int 2)))
theorem C_mofFaction (n : Nat) (f w : Int32) (h : List zC) (u : Nat) (hS : Stc h) : zL zrx zi n 188 0 [(0, .ref 213), (1, .int f), (2, .int w)] [] h u (Q_mofFaction f w h) := by
  refine zSaload (m := 1) (k := 0) vr_188_0 rfl rfl rfl ?_
  refine zSp0 (pc' := 2) (st' := .int (0) :: _) vr_188_1 rfl rfl ?_
  refine zLput vr_188_2 rfl (fun p3682 k3682 e3682 t3682 g3682 => ?_)
  cases e3682
  have t0 := g3682
  have hS0 := hS.thr t0
  refine zSiload (m := 1) (k := 1) vr_188_5 rfl rfl rfl (fun x3683 e3683 => ?_)
  cases e3683
  refine zSp0 (pc' := 7) (st' := .int (0) :: _) vr_188_6 rfl rfl ?_
  refine zSp0 (pc' := 8) (st' := .int (3) :: _) vr_188_7 rfl rfl ?_
  refine zScall vr_188_8 rfl rfl rfl (fun m3686 _ => C_in _ _ _ _ _ _) (fun v3686 h3686 u3686 q3686 => ?_) (fun E3686 h3686 u3686 q3686 => ?_)
  · obtain ⟨eh3686, z3686⟩ := q3686
    replace eh3686 := eh3686.symm
    subst eh3686
    cases z3686
    show zL zrx zi _ 188 11 [(0, _), (1, _), (2, _)] [_] _ _ _
    refine zSb1 (f := fun x => decide (¬ x = 0)) (off := 9) (t := 20) vr_188_11 rfl rfl rfl (fun x3687 e3687 q3687 => ?_) (fun x3687 e3687 q3687 => ?_)
    · cases e3687
      have c3687 := of_decide_eq_true q3687
      have rf4 : iN 4 f := in_y (x := f) (hi := 3) (m := 4) (by decide) c3687
      refine zSiload (m := 1) (k := 2) vr_188_20 rfl rfl rfl (fun x3688 e3688 => ?_)
      cases e3688
      refine zSp0 (pc' := 22) (st' := .int (0) :: _) vr_188_21 rfl rfl ?_
      refine zSp0 (pc' := 24) (st' := .int (8) :: _) vr_188_22 rfl rfl ?_
      refine zScall vr_188_24 rfl rfl rfl (fun m3691 _ => C_in _ _ _ _ _ _) (fun v3691 h3691 u3691 q3691 => ?_) (fun E3691 h3691 u3691 q3691 => ?_)
      · obtain ⟨eh3691, z3691⟩ := q3691
        replace eh3691 := eh3691.symm
        subst eh3691
        cases z3691
        show zL zrx zi _ 188 27 [(0, _), (1, _), (2, _)] [_] _ _ _
        refine zSb1 (f := fun x => decide (¬ x = 0)) (off := 9) (t := 36) vr_188_27 rfl rfl rfl (fun x3692 e3692 q3692 => ?_) (fun x3692 e3692 q3692 => ?_)
        · cases e3692
          have c3692 := of_decide_eq_true q3692
          have r2 : rI 0 8 w := inB_y c3692
          refine zSaload (m := 1) (k := 0) vr_188_36 rfl rfl rfl ?_
          refine zSiload (m := 1) (k := 1) vr_188_37 rfl rfl rfl (fun x3694 e3694 => ?_)
          cases e3694
          refine zSiload (m := 1) (k := 2) vr_188_38 rfl rfl rfl (fun x3695 e3695 => ?_)
          cases e3695
          refine zScall vr_188_39 rfl rfl rfl (fun m3696 _ => C_mfN _ _ _ _ _ hS0 rf4 r2) (fun v3696 h3696 u3696 q3696 => ?_) (fun E3696 h3696 u3696 q3696 => ?_)
          · obtain ⟨eh3696, z3696⟩ := q3696
            replace eh3696 := eh3696.symm
            subst eh3696
            cases z3696
            show zL zrx zi _ 188 42 [(0, _), (1, _), (2, _)] [_] _ _ _
            refine zLiret vr_188_42 rfl (fun x3697 e3697 => ?_)
            cases e3697
            exact ⟨_, _, rfl, t0, Or.inl ⟨⟨rf4, r2⟩, rfl, rfl⟩⟩
          · obtain ⟨-, z⟩ := q3696
            cases z
        · cases e3692
          have c3692 := ndc q3692
          refine zSaload (m := 1) (k := 0) vr_188_30 rfl rfl rfl ?_
          refine zSp0 (pc' := 32) (st' := .int (2) :: _) vr_188_31 rfl rfl ?_
          refine zScall vr_188_32 rfl rfl rfl (fun m3700 _ => C_no _ _ _ _ _) (fun v3700 h3700 u3700 q3700 => ?_) (fun E3700 h3700 u3700 q3700 => ?_)
          · obtain ⟨gn3700, z3700⟩ := q3700
            cases z3700
            show zL zrx zi _ 188 35 [(0, _), (1, _), (2, _)] [_] _ _ _
            refine zLiret vr_188_35 rfl (fun x3701 e3701 => ?_)
            cases e3701
            exact ⟨_, _, rfl, t0, Or.inr (Or.inr ⟨rf4, inB_n (Decidable.not_not.mp c3692), gn3700⟩)⟩
          · obtain ⟨-, z⟩ := q3700
            cases z
      · obtain ⟨-, z⟩ := q3691
        cases z
    · cases e3687
      have c3687 := ndc q3687
      refine zSaload (m := 1) (k := 0) vr_188_14 rfl rfl rfl ?_
      refine zSp0 (pc' := 16) (st' := .int (1) :: _) vr_188_15 rfl rfl ?_
      refine zScall vr_188_16 rfl rfl rfl (fun m3704 _ => C_no _ _ _ _ _) (fun v3704 h3704 u3704 q3704 => ?_) (fun E3704 h3704 u3704 q3704 => ?_)
      · obtain ⟨gn3704, z3704⟩ := q3704
        cases z3704
        show zL zrx zi _ 188 19 [(0, _), (1, _), (2, _)] [_] _ _ _
        refine zLiret vr_188_19 rfl (fun x3705 e3705 => ?_)
        cases e3705
        exact ⟨_, _, rfl, t0, Or.inr (Or.inl ⟨in_n (x := f) (hi := 3) (m := 4) (by decide) (Decidable.not_not.mp c3687), gn3704⟩)⟩
      · obtain ⟨-, z⟩ := q3704
        cases z
  · obtain ⟨-, z⟩ := q3686
    cases z
abbrev Q_mwouldVote (el : Nat) (cnt : Int32) (x hv rep : Int32) (h : List zC) : zK := fun o h2 _ => ∃ (y : Int32) (h0 : List zC), o = .inl (some (.int y)) ∧ hPut h h0 213 0 (.int 0) ∧
  (((iN cnt.toInt x ∧ iN 3 hv) ∧ h2 = h0 ∧ ∃ A : Nat, gF h el x.toNatClampNeg = some (.ref A) ∧ y = bMs (fun f => iv h0 (227 + hv.toNatClampNeg) f) (fun f => byM rep (iv h0 236 f) x (lkM h0 f A)) 4) ∨ (¬ (iN cnt.toInt x ∧ iN 3 hv) ∧ hPut h0 h2 213 0 (.int 1)))
theorem C_mwouldVote (n : Nat) (x hv rep : Int32) (h : List zC) (u : Nat) {el : Nat} {cnt : Int32} (hS : Stc h) (hL : gF h 225 1 = some (.ref el)) (hs : gF h 225 2 = some (.int cnt)) (h0c : 0 ≤ cnt.toInt) (h213 : ¬ el = 213) (hA : ∀ k, k < cnt.toNatClampNeg → ∃ A : Nat, gF h el k = some (.ref A) ∧ 239 ≤ A) : zL zrx zi n 202 0 [(0, .ref 213), (1, .int x), (2, .int hv), (3, .int rep)] [] h u (Q_mwouldVote el cnt x hv rep h) := by
  refine zSaload (m := 1) (k := 0) vr_202_0 rfl rfl rfl ?_
  refine zSp0 (pc' := 2) (st' := .int (0) :: _) vr_202_1 rfl rfl ?_
  refine zLput vr_202_2 rfl (fun p3708 k3708 e3708 t3708 g3708 => ?_)
  cases e3708
  have t0 := g3708
  have hS0 := hS.thr t0
  have f0 : ∀ q k, ¬ (q = 213 ∧ k = 0) → gF k3708 q k = gF h q k := fun q k z => by rw [t0.2.1, if_neg z]
  have hs0 := (f0 225 2 (by omega)).trans hs
  have hL0 := (f0 225 1 (by omega)).trans hL
  refine zSaload (m := 1) (k := 0) vr_202_5 rfl rfl rfl ?_
  refine zSiload (m := 1) (k := 1) vr_202_6 rfl rfl rfl (fun x3710 e3710 => ?_)
  cases e3710
  refine zScall vr_202_7 rfl rfl rfl (fun m3711 _ => C_isA _ _ _ _ hS0 hs0) (fun v3711 h3711 u3711 q3711 => ?_) (fun E3711 h3711 u3711 q3711 => ?_)
  · obtain ⟨eh3711, z3711⟩ := q3711
    replace eh3711 := eh3711.symm
    subst eh3711
    cases z3711
    show zL zrx zi _ 202 10 [(0, _), (1, _), (2, _), (3, _)] [_] _ _ _
    refine zSb1 (f := fun x => decide (x = 0)) (off := 12) (t := 22) vr_202_10 rfl rfl rfl (fun x3712 e3712 q3712 => ?_) (fun x3712 e3712 q3712 => ?_)
    · cases e3712
      have c3712 := of_decide_eq_true q3712
      refine zSaload (m := 1) (k := 0) vr_202_22 rfl rfl rfl ?_
      refine zSp0 (pc' := 24) (st' := .int (1) :: _) vr_202_23 rfl rfl ?_
      refine zScall vr_202_24 rfl rfl rfl (fun m3715 _ => C_no _ _ _ _ _) (fun v3715 h3715 u3715 q3715 => ?_) (fun E3715 h3715 u3715 q3715 => ?_)
      · obtain ⟨gn3715, z3715⟩ := q3715
        cases z3715
        show zL zrx zi _ 202 27 [(0, _), (1, _), (2, _), (3, _)] [_] _ _ _
        refine zLiret vr_202_27 rfl (fun x3716 e3716 => ?_)
        cases e3716
        first
          | exact ⟨_, _, rfl, t0, Or.inr ⟨fun z => isr_n h0c c3712 z.1, gn3715⟩⟩
          | exact ⟨_, _, rfl, t0, Or.inr ⟨fun z => in_n (x := hv) (hi := 2) (m := 3) (by decide) (Decidable.not_not.mp c3705) z.2, gn3715⟩⟩
      · obtain ⟨-, z⟩ := q3715
        cases z
    · cases e3712
      have c3712 := ndc q3712
      have ra := isr_y h0c c3712
      obtain ⟨A, hA1, lA⟩ := hA x.toNatClampNeg (by
        obtain ⟨a1, a2⟩ := ra
        show x.toInt.toNat < cnt.toInt.toNat
        omega)
      have hq0 : gF k3708 el x.toNatClampNeg = some (.ref A) := (f0 el _ (fun z => h213 z.1)).trans hA1
      refine zSiload (m := 1) (k := 2) vr_202_13 rfl rfl rfl (fun x3717 e3717 => ?_)
      cases e3717
      refine zSp0 (pc' := 15) (st' := .int (0) :: _) vr_202_14 rfl rfl ?_
      refine zSp0 (pc' := 16) (st' := .int (2) :: _) vr_202_15 rfl rfl ?_
      refine zScall vr_202_16 rfl rfl rfl (fun m3720 _ => C_in _ _ _ _ _ _) (fun v3720 h3720 u3720 q3720 => ?_) (fun E3720 h3720 u3720 q3720 => ?_)
      · obtain ⟨eh3720, z3720⟩ := q3720
        replace eh3720 := eh3720.symm
        subst eh3720
        cases z3720
        show zL zrx zi _ 202 19 [(0, _), (1, _), (2, _), (3, _)] [_] _ _ _
        refine zSb1 (f := fun x => decide (¬ x = 0)) (off := 9) (t := 28) vr_202_19 rfl rfl rfl (fun x3721 e3721 q3721 => ?_) (fun x3721 e3721 q3721 => ?_)
        · cases e3721
          have c3721 := of_decide_eq_true q3721
          have rh : iN 3 hv := in_y (x := hv) (hi := 2) (m := 3) (by decide) c3721
          refine zSaload (m := 1) (k := 0) vr_202_28 rfl rfl rfl ?_
          refine zSiload (m := 1) (k := 1) vr_202_29 rfl rfl rfl (fun x3723 e3723 => ?_)
          cases e3723
          refine zSiload (m := 1) (k := 2) vr_202_30 rfl rfl rfl (fun x3724 e3724 => ?_)
          cases e3724
          refine zSiload (m := 1) (k := 3) vr_202_31 rfl rfl rfl (fun x3725 e3725 => ?_)
          cases e3725
          refine zScall vr_202_32 rfl rfl rfl (fun m3726 _ => C_mar _ _ _ _ _ _ rfl (iN3 rh) hS0 hL0 hs0 hq0) (fun v3726 h3726 u3726 q3726 => ?_) (fun E3726 h3726 u3726 q3726 => ?_)
          · obtain ⟨eh3726, z3726⟩ := q3726
            replace eh3726 := eh3726.symm
            subst eh3726
            cases z3726
            show zL zrx zi _ 202 35 [(0, _), (1, _), (2, _), (3, _)] [_] _ _ _
            refine zLiret vr_202_35 rfl (fun x3727 e3727 => ?_)
            cases e3727
            exact ⟨_, _, rfl, t0, Or.inl ⟨⟨ra, rh⟩, rfl, A, hA1, rfl⟩⟩
          · obtain ⟨-, z⟩ := q3726
            cases z
        · cases e3721
          have c3721 := ndc q3721
          refine zSaload (m := 1) (k := 0) vr_202_22 rfl rfl rfl ?_
          refine zSp0 (pc' := 24) (st' := .int (1) :: _) vr_202_23 rfl rfl ?_
          refine zScall vr_202_24 rfl rfl rfl (fun m3730 _ => C_no _ _ _ _ _) (fun v3730 h3730 u3730 q3730 => ?_) (fun E3730 h3730 u3730 q3730 => ?_)
          · obtain ⟨gn3730, z3730⟩ := q3730
            cases z3730
            show zL zrx zi _ 202 27 [(0, _), (1, _), (2, _), (3, _)] [_] _ _ _
            refine zLiret vr_202_27 rfl (fun x3731 e3731 => ?_)
            cases e3731
            first
              | exact ⟨_, _, rfl, t0, Or.inr ⟨fun z => isr_n h0c c3712 z.1, gn3730⟩⟩
              | exact ⟨_, _, rfl, t0, Or.inr ⟨fun z => in_n (x := hv) (hi := 2) (m := 3) (by decide) (Decidable.not_not.mp c3721) z.2, gn3730⟩⟩
          · obtain ⟨-, z⟩ := q3730
            cases z
      · obtain ⟨-, z⟩ := q3720
        cases z
  · obtain ⟨-, z⟩ := q3711
    cases z

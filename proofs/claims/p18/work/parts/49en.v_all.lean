/-! ===== values: all, 11 ===== -/
theorem vr_120_0 : zrx 120 0 = some (.aload_n 1, 0, 0) := by decide +kernel
theorem vr_120_1 : zrx 120 1 = some (.getfield 28, 16, 3) := by decide +kernel
theorem vr_120_4 : zrx 120 4 = some (.aload_n 0, 0, 0) := by decide +kernel
theorem vr_120_5 : zrx 120 5 = some (.getfield 33, 15, 0) := by decide +kernel
theorem vr_120_8 : zrx 120 8 = some (.if_icmp .ne 67, 0, 0) := by decide +kernel
theorem vr_120_11 : zrx 120 11 = some (.aload_n 0, 0, 0) := by decide +kernel
theorem vr_120_12 : zrx 120 12 = some (.getfield 34, 15, 1) := by decide +kernel
theorem vr_120_15 : zrx 120 15 = some (.aload_n 1, 0, 0) := by decide +kernel
theorem vr_120_16 : zrx 120 16 = some (.getfield 37, 16, 2) := by decide +kernel
theorem vr_120_19 : zrx 120 19 = some (.invokestatic 40, 133, 1) := by decide +kernel
theorem vr_120_22 : zrx 120 22 = some (.ifCond .eq 53, 0, 0) := by decide +kernel
theorem vr_120_25 : zrx 120 25 = some (.aload_n 1, 0, 0) := by decide +kernel
theorem vr_120_26 : zrx 120 26 = some (.getfield 44, 16, 4) := by decide +kernel
theorem vr_120_29 : zrx 120 29 = some (.aload_n 0, 0, 0) := by decide +kernel
theorem vr_120_30 : zrx 120 30 = some (.getfield 47, 15, 2) := by decide +kernel
theorem vr_120_33 : zrx 120 33 = some (.iand, 0, 0) := by decide +kernel
theorem vr_120_34 : zrx 120 34 = some (.aload_n 0, 0, 0) := by decide +kernel
theorem vr_120_35 : zrx 120 35 = some (.getfield 47, 15, 2) := by decide +kernel
theorem vr_120_38 : zrx 120 38 = some (.if_icmp .ne 37, 0, 0) := by decide +kernel
theorem vr_120_41 : zrx 120 41 = some (.aload_n 1, 0, 0) := by decide +kernel
theorem vr_120_42 : zrx 120 42 = some (.getfield 44, 16, 4) := by decide +kernel
theorem vr_120_45 : zrx 120 45 = some (.aload_n 0, 0, 0) := by decide +kernel
theorem vr_120_46 : zrx 120 46 = some (.getfield 50, 15, 3) := by decide +kernel
theorem vr_120_49 : zrx 120 49 = some (.iand, 0, 0) := by decide +kernel
theorem vr_120_50 : zrx 120 50 = some (.ifCond .ne 25, 0, 0) := by decide +kernel
theorem vr_120_53 : zrx 120 53 = some (.aload_n 1, 0, 0) := by decide +kernel
theorem vr_120_54 : zrx 120 54 = some (.getfield 53, 16, 5) := by decide +kernel
theorem vr_120_57 : zrx 120 57 = some (.aload_n 0, 0, 0) := by decide +kernel
theorem vr_120_58 : zrx 120 58 = some (.invokevirtual 56, 121, 160) := by decide +kernel
theorem vr_120_61 : zrx 120 61 = some (.aload_n 0, 0, 0) := by decide +kernel
theorem vr_120_62 : zrx 120 62 = some (.invokevirtual 60, 122, 160) := by decide +kernel
theorem vr_120_65 : zrx 120 65 = some (.invokestatic 63, 132, 1) := by decide +kernel
theorem vr_120_68 : zrx 120 68 = some (.ifCond .eq 7, 0, 0) := by decide +kernel
theorem vr_120_71 : zrx 120 71 = some (.iconst 1, 0, 0) := by decide +kernel
theorem vr_120_72 : zrx 120 72 = some (.goto 4, 0, 0) := by decide +kernel
theorem vr_120_75 : zrx 120 75 = some (.iconst 0, 0, 0) := by decide +kernel
theorem vr_120_76 : zrx 120 76 = some (.ireturn, 0, 0) := by decide +kernel
theorem vr_121_0 : zrx 121 0 = some (.iconst 0, 0, 0) := by decide +kernel
theorem vr_121_1 : zrx 121 1 = some (.istore_n 1, 0, 0) := by decide +kernel
theorem vr_121_2 : zrx 121 2 = some (.iconst 0, 0, 0) := by decide +kernel
theorem vr_121_3 : zrx 121 3 = some (.istore_n 2, 0, 0) := by decide +kernel
theorem vr_121_4 : zrx 121 4 = some (.iload_n 2, 0, 0) := by decide +kernel
theorem vr_121_5 : zrx 121 5 = some (.aload_n 0, 0, 0) := by decide +kernel
theorem vr_121_6 : zrx 121 6 = some (.getfield 67, 15, 6) := by decide +kernel
theorem vr_121_9 : zrx 121 9 = some (.if_icmp .ge 36, 0, 0) := by decide +kernel
theorem vr_121_12 : zrx 121 12 = some (.aload_n 0, 0, 0) := by decide +kernel
theorem vr_121_13 : zrx 121 13 = some (.getfield 9, 15, 4) := by decide +kernel
theorem vr_121_16 : zrx 121 16 = some (.iload_n 2, 0, 0) := by decide +kernel
theorem vr_121_17 : zrx 121 17 = some (.iaload, 0, 0) := by decide +kernel
theorem vr_121_18 : zrx 121 18 = some (.iconst 2, 0, 0) := by decide +kernel
theorem vr_121_19 : zrx 121 19 = some (.if_icmp .ne 18, 0, 0) := by decide +kernel
theorem vr_121_22 : zrx 121 22 = some (.iload_n 1, 0, 0) := by decide +kernel
theorem vr_121_23 : zrx 121 23 = some (.aload_n 0, 0, 0) := by decide +kernel
theorem vr_121_24 : zrx 121 24 = some (.getfield 15, 15, 5) := by decide +kernel
theorem vr_121_27 : zrx 121 27 = some (.iload_n 2, 0, 0) := by decide +kernel
theorem vr_121_28 : zrx 121 28 = some (.iaload, 0, 0) := by decide +kernel
theorem vr_121_29 : zrx 121 29 = some (.iconst 1, 0, 0) := by decide +kernel
theorem vr_121_30 : zrx 121 30 = some (.iadd, 0, 0) := by decide +kernel
theorem vr_121_31 : zrx 121 31 = some (.invokestatic 70, 261, 0) := by decide +kernel
theorem vr_121_34 : zrx 121 34 = some (.goto 4, 0, 0) := by decide +kernel
theorem vr_121_37 : zrx 121 37 = some (.iload_n 1, 0, 0) := by decide +kernel
theorem vr_121_38 : zrx 121 38 = some (.istore_n 1, 0, 0) := by decide +kernel
theorem vr_121_39 : zrx 121 39 = some (.iinc 2 1, 0, 0) := by decide +kernel
theorem vr_121_42 : zrx 121 42 = some (.goto (-38), 0, 0) := by decide +kernel
theorem vr_121_45 : zrx 121 45 = some (.iload_n 1, 0, 0) := by decide +kernel
theorem vr_121_46 : zrx 121 46 = some (.ireturn, 0, 0) := by decide +kernel
theorem vr_122_0 : zrx 122 0 = some (.sipush 999, 0, 0) := by decide +kernel
theorem vr_122_3 : zrx 122 3 = some (.istore_n 1, 0, 0) := by decide +kernel
theorem vr_122_4 : zrx 122 4 = some (.iconst 0, 0, 0) := by decide +kernel
theorem vr_122_5 : zrx 122 5 = some (.istore_n 2, 0, 0) := by decide +kernel
theorem vr_122_6 : zrx 122 6 = some (.iload_n 2, 0, 0) := by decide +kernel
theorem vr_122_7 : zrx 122 7 = some (.aload_n 0, 0, 0) := by decide +kernel
theorem vr_122_8 : zrx 122 8 = some (.getfield 67, 15, 6) := by decide +kernel
theorem vr_122_11 : zrx 122 11 = some (.if_icmp .ge 36, 0, 0) := by decide +kernel
theorem vr_122_14 : zrx 122 14 = some (.aload_n 0, 0, 0) := by decide +kernel
theorem vr_122_15 : zrx 122 15 = some (.getfield 9, 15, 4) := by decide +kernel
theorem vr_122_18 : zrx 122 18 = some (.iload_n 2, 0, 0) := by decide +kernel
theorem vr_122_19 : zrx 122 19 = some (.iaload, 0, 0) := by decide +kernel
theorem vr_122_20 : zrx 122 20 = some (.iconst 1, 0, 0) := by decide +kernel
theorem vr_122_21 : zrx 122 21 = some (.if_icmp .ne 18, 0, 0) := by decide +kernel
theorem vr_122_24 : zrx 122 24 = some (.iload_n 1, 0, 0) := by decide +kernel
theorem vr_122_25 : zrx 122 25 = some (.aload_n 0, 0, 0) := by decide +kernel
theorem vr_122_26 : zrx 122 26 = some (.getfield 15, 15, 5) := by decide +kernel
theorem vr_122_29 : zrx 122 29 = some (.iload_n 2, 0, 0) := by decide +kernel
theorem vr_122_30 : zrx 122 30 = some (.iaload, 0, 0) := by decide +kernel
theorem vr_122_31 : zrx 122 31 = some (.iconst 1, 0, 0) := by decide +kernel
theorem vr_122_32 : zrx 122 32 = some (.isub, 0, 0) := by decide +kernel
theorem vr_122_33 : zrx 122 33 = some (.invokestatic 76, 262, 0) := by decide +kernel
theorem vr_122_36 : zrx 122 36 = some (.goto 4, 0, 0) := by decide +kernel
theorem vr_122_39 : zrx 122 39 = some (.iload_n 1, 0, 0) := by decide +kernel
theorem vr_122_40 : zrx 122 40 = some (.istore_n 1, 0, 0) := by decide +kernel
theorem vr_122_41 : zrx 122 41 = some (.iinc 2 1, 0, 0) := by decide +kernel
theorem vr_122_44 : zrx 122 44 = some (.goto (-38), 0, 0) := by decide +kernel
theorem vr_122_47 : zrx 122 47 = some (.iload_n 1, 0, 0) := by decide +kernel
theorem vr_122_48 : zrx 122 48 = some (.ireturn, 0, 0) := by decide +kernel
theorem vr_123_0 : zrx 123 0 = some (.aload_n 0, 0, 0) := by decide +kernel
theorem vr_123_1 : zrx 123 1 = some (.getfield 79, 15, 9) := by decide +kernel
theorem vr_123_4 : zrx 123 4 = some (.iconst 1, 0, 0) := by decide +kernel
theorem vr_123_5 : zrx 123 5 = some (.if_icmp .eq 11, 0, 0) := by decide +kernel
theorem vr_123_8 : zrx 123 8 = some (.aload_n 0, 0, 0) := by decide +kernel
theorem vr_123_9 : zrx 123 9 = some (.getfield 79, 15, 9) := by decide +kernel
theorem vr_123_12 : zrx 123 12 = some (.iconst 2, 0, 0) := by decide +kernel
theorem vr_123_13 : zrx 123 13 = some (.if_icmp .ne 31, 0, 0) := by decide +kernel
theorem vr_123_16 : zrx 123 16 = some (.aload_n 0, 0, 0) := by decide +kernel
theorem vr_123_17 : zrx 123 17 = some (.getfield 22, 15, 10) := by decide +kernel
theorem vr_123_20 : zrx 123 20 = some (.iload_n 1, 0, 0) := by decide +kernel
theorem vr_123_21 : zrx 123 21 = some (.if_icmp .gt 23, 0, 0) := by decide +kernel
theorem vr_123_24 : zrx 123 24 = some (.aload_n 0, 0, 0) := by decide +kernel
theorem vr_123_25 : zrx 123 25 = some (.getfield 79, 15, 9) := by decide +kernel
theorem vr_123_28 : zrx 123 28 = some (.iconst 1, 0, 0) := by decide +kernel
theorem vr_123_29 : zrx 123 29 = some (.if_icmp .eq 11, 0, 0) := by decide +kernel
theorem vr_123_32 : zrx 123 32 = some (.iload_n 1, 0, 0) := by decide +kernel
theorem vr_123_33 : zrx 123 33 = some (.aload_n 0, 0, 0) := by decide +kernel
theorem vr_123_34 : zrx 123 34 = some (.getfield 25, 15, 11) := by decide +kernel
theorem vr_123_37 : zrx 123 37 = some (.if_icmp .ge 7, 0, 0) := by decide +kernel
theorem vr_123_40 : zrx 123 40 = some (.iconst 1, 0, 0) := by decide +kernel
theorem vr_123_41 : zrx 123 41 = some (.goto 4, 0, 0) := by decide +kernel
theorem vr_123_44 : zrx 123 44 = some (.iconst 0, 0, 0) := by decide +kernel
theorem vr_123_45 : zrx 123 45 = some (.ireturn, 0, 0) := by decide +kernel
theorem vr_136_0 : zrx 136 0 = some (.aload_n 0, 0, 0) := by decide +kernel
theorem vr_136_1 : zrx 136 1 = some (.aload_n 1, 0, 0) := by decide +kernel
theorem vr_136_2 : zrx 136 2 = some (.getfield 84, 16, 0) := by decide +kernel
theorem vr_136_5 : zrx 136 5 = some (.aload_n 1, 0, 0) := by decide +kernel
theorem vr_136_6 : zrx 136 6 = some (.invokevirtual 89, 135, 190) := by decide +kernel
theorem vr_136_9 : zrx 136 9 = some (.istore_n 2, 0, 0) := by decide +kernel
theorem vr_136_10 : zrx 136 10 = some (.aload_n 0, 0, 0) := by decide +kernel
theorem vr_136_11 : zrx 136 11 = some (.getfield 18, 18, 6) := by decide +kernel
theorem vr_136_14 : zrx 136 14 = some (.aload_n 1, 0, 0) := by decide +kernel
theorem vr_136_15 : zrx 136 15 = some (.getfield 93, 16, 3) := by decide +kernel
theorem vr_136_18 : zrx 136 18 = some (.iaload, 0, 0) := by decide +kernel
theorem vr_136_19 : zrx 136 19 = some (.ifCond .ne 5, 0, 0) := by decide +kernel
theorem vr_136_22 : zrx 136 22 = some (.iload_n 2, 0, 0) := by decide +kernel
theorem vr_136_23 : zrx 136 23 = some (.ireturn, 0, 0) := by decide +kernel
theorem vr_136_24 : zrx 136 24 = some (.aload_n 0, 0, 0) := by decide +kernel
theorem vr_136_25 : zrx 136 25 = some (.aload_n 1, 0, 0) := by decide +kernel
theorem vr_136_26 : zrx 136 26 = some (.getfield 96, 16, 1) := by decide +kernel
theorem vr_136_29 : zrx 136 29 = some (.aload_n 1, 0, 0) := by decide +kernel
theorem vr_136_30 : zrx 136 30 = some (.invokevirtual 89, 135, 190) := by decide +kernel
theorem vr_136_33 : zrx 136 33 = some (.istore_n 3, 0, 0) := by decide +kernel
theorem vr_136_34 : zrx 136 34 = some (.aload_n 0, 0, 0) := by decide +kernel
theorem vr_136_35 : zrx 136 35 = some (.getfield 18, 18, 6) := by decide +kernel
theorem vr_136_38 : zrx 136 38 = some (.aload_n 1, 0, 0) := by decide +kernel
theorem vr_136_39 : zrx 136 39 = some (.getfield 93, 16, 3) := by decide +kernel
theorem vr_136_42 : zrx 136 42 = some (.iaload, 0, 0) := by decide +kernel
theorem vr_136_43 : zrx 136 43 = some (.iconst 1, 0, 0) := by decide +kernel
theorem vr_136_44 : zrx 136 44 = some (.if_icmp .ne 5, 0, 0) := by decide +kernel
theorem vr_136_47 : zrx 136 47 = some (.iload_n 3, 0, 0) := by decide +kernel
theorem vr_136_48 : zrx 136 48 = some (.ireturn, 0, 0) := by decide +kernel
theorem vr_136_49 : zrx 136 49 = some (.iload_n 2, 0, 0) := by decide +kernel
theorem vr_136_50 : zrx 136 50 = some (.ifCond .lt 13, 0, 0) := by decide +kernel
theorem vr_136_53 : zrx 136 53 = some (.iload_n 3, 0, 0) := by decide +kernel
theorem vr_136_54 : zrx 136 54 = some (.ifCond .lt 9, 0, 0) := by decide +kernel
theorem vr_136_57 : zrx 136 57 = some (.iload_n 2, 0, 0) := by decide +kernel
theorem vr_136_58 : zrx 136 58 = some (.iload_n 3, 0, 0) := by decide +kernel
theorem vr_136_59 : zrx 136 59 = some (.invokestatic 99, 262, 0) := by decide +kernel
theorem vr_136_62 : zrx 136 62 = some (.ireturn, 0, 0) := by decide +kernel
theorem vr_136_63 : zrx 136 63 = some (.iload_n 2, 0, 0) := by decide +kernel
theorem vr_136_64 : zrx 136 64 = some (.ifCond .ge 7, 0, 0) := by decide +kernel
theorem vr_136_67 : zrx 136 67 = some (.iload_n 3, 0, 0) := by decide +kernel
theorem vr_136_68 : zrx 136 68 = some (.ifCond .lt 9, 0, 0) := by decide +kernel
theorem vr_136_71 : zrx 136 71 = some (.iload_n 2, 0, 0) := by decide +kernel
theorem vr_136_72 : zrx 136 72 = some (.iload_n 3, 0, 0) := by decide +kernel
theorem vr_136_73 : zrx 136 73 = some (.invokestatic 105, 261, 0) := by decide +kernel
theorem vr_136_76 : zrx 136 76 = some (.ireturn, 0, 0) := by decide +kernel
theorem vr_136_77 : zrx 136 77 = some (.iload_n 2, 0, 0) := by decide +kernel
theorem vr_136_78 : zrx 136 78 = some (.bipush (-2), 0, 0) := by decide +kernel
theorem vr_136_80 : zrx 136 80 = some (.if_icmp .eq 9, 0, 0) := by decide +kernel
theorem vr_136_83 : zrx 136 83 = some (.iload_n 3, 0, 0) := by decide +kernel
theorem vr_136_84 : zrx 136 84 = some (.bipush (-2), 0, 0) := by decide +kernel
theorem vr_136_86 : zrx 136 86 = some (.if_icmp .ne 8, 0, 0) := by decide +kernel
theorem vr_136_89 : zrx 136 89 = some (.bipush (-2), 0, 0) := by decide +kernel
theorem vr_136_91 : zrx 136 91 = some (.goto 4, 0, 0) := by decide +kernel
theorem vr_136_94 : zrx 136 94 = some (.iconst (-1), 0, 0) := by decide +kernel
theorem vr_136_95 : zrx 136 95 = some (.ireturn, 0, 0) := by decide +kernel
theorem vr_137_0 : zrx 137 0 = some (.iload_n 0, 0, 0) := by decide +kernel
theorem vr_137_1 : zrx 137 1 = some (.bipush (-9), 0, 0) := by decide +kernel
theorem vr_137_3 : zrx 137 3 = some (.if_icmp .eq 8, 0, 0) := by decide +kernel
theorem vr_137_6 : zrx 137 6 = some (.iload_n 0, 0, 0) := by decide +kernel
theorem vr_137_7 : zrx 137 7 = some (.iload_n 1, 0, 0) := by decide +kernel
theorem vr_137_8 : zrx 137 8 = some (.if_icmp .ne 7, 0, 0) := by decide +kernel
theorem vr_137_11 : zrx 137 11 = some (.iload_n 1, 0, 0) := by decide +kernel
theorem vr_137_12 : zrx 137 12 = some (.goto 5, 0, 0) := by decide +kernel
theorem vr_137_15 : zrx 137 15 = some (.bipush (-2), 0, 0) := by decide +kernel
theorem vr_137_17 : zrx 137 17 = some (.ireturn, 0, 0) := by decide +kernel
theorem vr_138_0 : zrx 138 0 = some (.iload_n 1, 0, 0) := by decide +kernel
theorem vr_138_1 : zrx 138 1 = some (.iload_n 3, 0, 0) := by decide +kernel
theorem vr_138_2 : zrx 138 2 = some (.if_icmp .eq 27, 0, 0) := by decide +kernel
theorem vr_138_5 : zrx 138 5 = some (.aload_n 0, 0, 0) := by decide +kernel
theorem vr_138_6 : zrx 138 6 = some (.getfield 31, 18, 9) := by decide +kernel
theorem vr_138_9 : zrx 138 9 = some (.iload_n 1, 0, 0) := by decide +kernel
theorem vr_138_10 : zrx 138 10 = some (.invokeinterface 65 2, 306, 35) := by decide +kernel
theorem vr_138_15 : zrx 138 15 = some (.checkcast 108, 15, 0) := by decide +kernel
theorem vr_138_18 : zrx 138 18 = some (.iload_n 2, 0, 0) := by decide +kernel
theorem vr_138_19 : zrx 138 19 = some (.invokevirtual 110, 123, 160) := by decide +kernel
theorem vr_138_22 : zrx 138 22 = some (.ifCond .eq 7, 0, 0) := by decide +kernel
theorem vr_138_25 : zrx 138 25 = some (.iconst 1, 0, 0) := by decide +kernel
theorem vr_138_26 : zrx 138 26 = some (.goto 4, 0, 0) := by decide +kernel
theorem vr_138_29 : zrx 138 29 = some (.iconst 0, 0, 0) := by decide +kernel
theorem vr_138_30 : zrx 138 30 = some (.ireturn, 0, 0) := by decide +kernel
theorem vr_139_0 : zrx 139 0 = some (.iload 5, 0, 0) := by decide +kernel
theorem vr_139_2 : zrx 139 2 = some (.iload_n 1, 0, 0) := by decide +kernel
theorem vr_139_3 : zrx 139 3 = some (.invokestatic 114, 133, 0) := by decide +kernel
theorem vr_139_6 : zrx 139 6 = some (.ifCond .eq 6, 0, 0) := by decide +kernel
theorem vr_139_9 : zrx 139 9 = some (.bipush (-3), 0, 0) := by decide +kernel
theorem vr_139_11 : zrx 139 11 = some (.ireturn, 0, 0) := by decide +kernel
theorem vr_139_12 : zrx 139 12 = some (.iload 5, 0, 0) := by decide +kernel
theorem vr_139_14 : zrx 139 14 = some (.iconst 1, 0, 0) := by decide +kernel
theorem vr_139_15 : zrx 139 15 = some (.iload_n 1, 0, 0) := by decide +kernel
theorem vr_139_16 : zrx 139 16 = some (.ishl, 0, 0) := by decide +kernel
theorem vr_139_17 : zrx 139 17 = some (.ior, 0, 0) := by decide +kernel
theorem vr_139_18 : zrx 139 18 = some (.istore 6, 0, 0) := by decide +kernel
theorem vr_139_20 : zrx 139 20 = some (.bipush (-9), 0, 0) := by decide +kernel
theorem vr_139_22 : zrx 139 22 = some (.istore 7, 0, 0) := by decide +kernel
theorem vr_139_24 : zrx 139 24 = some (.iconst 0, 0, 0) := by decide +kernel
theorem vr_139_25 : zrx 139 25 = some (.istore 8, 0, 0) := by decide +kernel
theorem vr_139_27 : zrx 139 27 = some (.iload 8, 0, 0) := by decide +kernel
theorem vr_139_29 : zrx 139 29 = some (.aload_n 0, 0, 0) := by decide +kernel
theorem vr_139_30 : zrx 139 30 = some (.getfield 31, 18, 9) := by decide +kernel
theorem vr_139_33 : zrx 139 33 = some (.invokeinterface 59 1, 304, 35) := by decide +kernel
theorem vr_139_38 : zrx 139 38 = some (.if_icmp .ge 82, 0, 0) := by decide +kernel
theorem vr_139_41 : zrx 139 41 = some (.aload_n 0, 0, 0) := by decide +kernel
theorem vr_139_42 : zrx 139 42 = some (.getfield 31, 18, 9) := by decide +kernel
theorem vr_139_45 : zrx 139 45 = some (.iload 8, 0, 0) := by decide +kernel
theorem vr_139_47 : zrx 139 47 = some (.invokeinterface 65 2, 306, 35) := by decide +kernel
theorem vr_139_52 : zrx 139 52 = some (.checkcast 108, 15, 0) := by decide +kernel
theorem vr_139_55 : zrx 139 55 = some (.getfield 118, 15, 8) := by decide +kernel
theorem vr_139_58 : zrx 139 58 = some (.iload_n 1, 0, 0) := by decide +kernel
theorem vr_139_59 : zrx 139 59 = some (.if_icmp .ne 55, 0, 0) := by decide +kernel
theorem vr_139_62 : zrx 139 62 = some (.aload_n 0, 0, 0) := by decide +kernel
theorem vr_139_63 : zrx 139 63 = some (.iload 8, 0, 0) := by decide +kernel
theorem vr_139_65 : zrx 139 65 = some (.iload_n 3, 0, 0) := by decide +kernel
theorem vr_139_66 : zrx 139 66 = some (.iload 4, 0, 0) := by decide +kernel
theorem vr_139_68 : zrx 139 68 = some (.invokevirtual 121, 138, 190) := by decide +kernel
theorem vr_139_71 : zrx 139 71 = some (.ifCond .eq 43, 0, 0) := by decide +kernel
theorem vr_139_74 : zrx 139 74 = some (.aload_n 0, 0, 0) := by decide +kernel
theorem vr_139_75 : zrx 139 75 = some (.getfield 31, 18, 9) := by decide +kernel
theorem vr_139_78 : zrx 139 78 = some (.iload 8, 0, 0) := by decide +kernel
theorem vr_139_80 : zrx 139 80 = some (.invokeinterface 65 2, 306, 35) := by decide +kernel
theorem vr_139_85 : zrx 139 85 = some (.checkcast 108, 15, 0) := by decide +kernel
theorem vr_139_88 : zrx 139 88 = some (.aload_n 2, 0, 0) := by decide +kernel
theorem vr_139_89 : zrx 139 89 = some (.invokevirtual 124, 120, 160) := by decide +kernel
theorem vr_139_92 : zrx 139 92 = some (.ifCond .eq 22, 0, 0) := by decide +kernel
theorem vr_139_95 : zrx 139 95 = some (.iload 7, 0, 0) := by decide +kernel
theorem vr_139_97 : zrx 139 97 = some (.aload_n 0, 0, 0) := by decide +kernel
theorem vr_139_98 : zrx 139 98 = some (.iload 8, 0, 0) := by decide +kernel
theorem vr_139_100 : zrx 139 100 = some (.aload_n 2, 0, 0) := by decide +kernel
theorem vr_139_101 : zrx 139 101 = some (.iload_n 3, 0, 0) := by decide +kernel
theorem vr_139_102 : zrx 139 102 = some (.iload 4, 0, 0) := by decide +kernel
theorem vr_139_104 : zrx 139 104 = some (.iload 6, 0, 0) := by decide +kernel
theorem vr_139_106 : zrx 139 106 = some (.invokevirtual 127, 139, 190) := by decide +kernel
theorem vr_139_109 : zrx 139 109 = some (.invokestatic 131, 137, 0) := by decide +kernel
theorem vr_139_112 : zrx 139 112 = some (.istore 7, 0, 0) := by decide +kernel
theorem vr_139_114 : zrx 139 114 = some (.iinc 8 1, 0, 0) := by decide +kernel
theorem vr_139_117 : zrx 139 117 = some (.goto (-90), 0, 0) := by decide +kernel
theorem vr_139_120 : zrx 139 120 = some (.iload 7, 0, 0) := by decide +kernel
theorem vr_139_122 : zrx 139 122 = some (.bipush (-9), 0, 0) := by decide +kernel
theorem vr_139_124 : zrx 139 124 = some (.if_icmp .eq 6, 0, 0) := by decide +kernel
theorem vr_139_127 : zrx 139 127 = some (.iload 7, 0, 0) := by decide +kernel
theorem vr_139_129 : zrx 139 129 = some (.ireturn, 0, 0) := by decide +kernel
theorem vr_139_130 : zrx 139 130 = some (.aload_n 0, 0, 0) := by decide +kernel
theorem vr_139_131 : zrx 139 131 = some (.getfield 31, 18, 9) := by decide +kernel
theorem vr_139_134 : zrx 139 134 = some (.iload_n 1, 0, 0) := by decide +kernel
theorem vr_139_135 : zrx 139 135 = some (.invokeinterface 65 2, 306, 35) := by decide +kernel
theorem vr_139_140 : zrx 139 140 = some (.checkcast 108, 15, 0) := by decide +kernel
theorem vr_139_143 : zrx 139 143 = some (.getfield 134, 15, 7) := by decide +kernel
theorem vr_139_146 : zrx 139 146 = some (.istore 8, 0, 0) := by decide +kernel
theorem vr_139_148 : zrx 139 148 = some (.iload 8, 0, 0) := by decide +kernel
theorem vr_139_150 : zrx 139 150 = some (.ifCond .lt 6, 0, 0) := by decide +kernel
theorem vr_139_153 : zrx 139 153 = some (.iload 8, 0, 0) := by decide +kernel
theorem vr_139_155 : zrx 139 155 = some (.ireturn, 0, 0) := by decide +kernel
theorem vr_139_156 : zrx 139 156 = some (.iload 8, 0, 0) := by decide +kernel
theorem vr_139_158 : zrx 139 158 = some (.iconst (-1), 0, 0) := by decide +kernel
theorem vr_139_159 : zrx 139 159 = some (.if_icmp .ne 9, 0, 0) := by decide +kernel
theorem vr_139_162 : zrx 139 162 = some (.aload_n 0, 0, 0) := by decide +kernel
theorem vr_139_163 : zrx 139 163 = some (.aload_n 2, 0, 0) := by decide +kernel
theorem vr_139_164 : zrx 139 164 = some (.invokevirtual 137, 136, 190) := by decide +kernel
theorem vr_139_167 : zrx 139 167 = some (.ireturn, 0, 0) := by decide +kernel
theorem vr_139_168 : zrx 139 168 = some (.aload_n 0, 0, 0) := by decide +kernel
theorem vr_139_169 : zrx 139 169 = some (.bipush (-2), 0, 0) := by decide +kernel
theorem vr_139_171 : zrx 139 171 = some (.iload 8, 0, 0) := by decide +kernel
theorem vr_139_173 : zrx 139 173 = some (.isub, 0, 0) := by decide +kernel
theorem vr_139_174 : zrx 139 174 = some (.iload_n 3, 0, 0) := by decide +kernel
theorem vr_139_175 : zrx 139 175 = some (.iload 4, 0, 0) := by decide +kernel
theorem vr_139_177 : zrx 139 177 = some (.invokevirtual 121, 138, 190) := by decide +kernel
theorem vr_139_180 : zrx 139 180 = some (.ifCond .eq 21, 0, 0) := by decide +kernel
theorem vr_139_183 : zrx 139 183 = some (.aload_n 0, 0, 0) := by decide +kernel
theorem vr_139_184 : zrx 139 184 = some (.bipush (-2), 0, 0) := by decide +kernel
theorem vr_139_186 : zrx 139 186 = some (.iload 8, 0, 0) := by decide +kernel
theorem vr_139_188 : zrx 139 188 = some (.isub, 0, 0) := by decide +kernel
theorem vr_139_189 : zrx 139 189 = some (.aload_n 2, 0, 0) := by decide +kernel
theorem vr_139_190 : zrx 139 190 = some (.iload_n 3, 0, 0) := by decide +kernel
theorem vr_139_191 : zrx 139 191 = some (.iload 4, 0, 0) := by decide +kernel
theorem vr_139_193 : zrx 139 193 = some (.iload 6, 0, 0) := by decide +kernel
theorem vr_139_195 : zrx 139 195 = some (.invokevirtual 127, 139, 190) := by decide +kernel
theorem vr_139_198 : zrx 139 198 = some (.goto 4, 0, 0) := by decide +kernel
theorem vr_139_201 : zrx 139 201 = some (.iconst (-1), 0, 0) := by decide +kernel
theorem vr_139_202 : zrx 139 202 = some (.ireturn, 0, 0) := by decide +kernel
theorem vr_140_0 : zrx 140 0 = some (.bipush (-9), 0, 0) := by decide +kernel
theorem vr_140_2 : zrx 140 2 = some (.istore 4, 0, 0) := by decide +kernel
theorem vr_140_4 : zrx 140 4 = some (.iconst 0, 0, 0) := by decide +kernel
theorem vr_140_5 : zrx 140 5 = some (.istore 5, 0, 0) := by decide +kernel
theorem vr_140_7 : zrx 140 7 = some (.iload 5, 0, 0) := by decide +kernel
theorem vr_140_9 : zrx 140 9 = some (.aload_n 0, 0, 0) := by decide +kernel
theorem vr_140_10 : zrx 140 10 = some (.getfield 31, 18, 9) := by decide +kernel
theorem vr_140_13 : zrx 140 13 = some (.invokeinterface 59 1, 304, 35) := by decide +kernel
theorem vr_140_18 : zrx 140 18 = some (.if_icmp .ge 79, 0, 0) := by decide +kernel
theorem vr_140_21 : zrx 140 21 = some (.aload_n 0, 0, 0) := by decide +kernel
theorem vr_140_22 : zrx 140 22 = some (.getfield 31, 18, 9) := by decide +kernel
theorem vr_140_25 : zrx 140 25 = some (.iload 5, 0, 0) := by decide +kernel
theorem vr_140_27 : zrx 140 27 = some (.invokeinterface 65 2, 306, 35) := by decide +kernel
theorem vr_140_32 : zrx 140 32 = some (.checkcast 108, 15, 0) := by decide +kernel
theorem vr_140_35 : zrx 140 35 = some (.getfield 118, 15, 8) := by decide +kernel
theorem vr_140_38 : zrx 140 38 = some (.iconst (-1), 0, 0) := by decide +kernel
theorem vr_140_39 : zrx 140 39 = some (.if_icmp .ne 52, 0, 0) := by decide +kernel
theorem vr_140_42 : zrx 140 42 = some (.aload_n 0, 0, 0) := by decide +kernel
theorem vr_140_43 : zrx 140 43 = some (.iload 5, 0, 0) := by decide +kernel
theorem vr_140_45 : zrx 140 45 = some (.iload_n 2, 0, 0) := by decide +kernel
theorem vr_140_46 : zrx 140 46 = some (.iload_n 3, 0, 0) := by decide +kernel
theorem vr_140_47 : zrx 140 47 = some (.invokevirtual 121, 138, 190) := by decide +kernel
theorem vr_140_50 : zrx 140 50 = some (.ifCond .eq 41, 0, 0) := by decide +kernel
theorem vr_140_53 : zrx 140 53 = some (.aload_n 0, 0, 0) := by decide +kernel
theorem vr_140_54 : zrx 140 54 = some (.getfield 31, 18, 9) := by decide +kernel
theorem vr_140_57 : zrx 140 57 = some (.iload 5, 0, 0) := by decide +kernel
theorem vr_140_59 : zrx 140 59 = some (.invokeinterface 65 2, 306, 35) := by decide +kernel
theorem vr_140_64 : zrx 140 64 = some (.checkcast 108, 15, 0) := by decide +kernel
theorem vr_140_67 : zrx 140 67 = some (.aload_n 1, 0, 0) := by decide +kernel
theorem vr_140_68 : zrx 140 68 = some (.invokevirtual 124, 120, 160) := by decide +kernel
theorem vr_140_71 : zrx 140 71 = some (.ifCond .eq 20, 0, 0) := by decide +kernel
theorem vr_140_74 : zrx 140 74 = some (.iload 4, 0, 0) := by decide +kernel
theorem vr_140_76 : zrx 140 76 = some (.aload_n 0, 0, 0) := by decide +kernel
theorem vr_140_77 : zrx 140 77 = some (.iload 5, 0, 0) := by decide +kernel
theorem vr_140_79 : zrx 140 79 = some (.aload_n 1, 0, 0) := by decide +kernel
theorem vr_140_80 : zrx 140 80 = some (.iload_n 2, 0, 0) := by decide +kernel
theorem vr_140_81 : zrx 140 81 = some (.iload_n 3, 0, 0) := by decide +kernel
theorem vr_140_82 : zrx 140 82 = some (.iconst 0, 0, 0) := by decide +kernel
theorem vr_140_83 : zrx 140 83 = some (.invokevirtual 127, 139, 190) := by decide +kernel
theorem vr_140_86 : zrx 140 86 = some (.invokestatic 131, 137, 0) := by decide +kernel
theorem vr_140_89 : zrx 140 89 = some (.istore 4, 0, 0) := by decide +kernel
theorem vr_140_91 : zrx 140 91 = some (.iinc 5 1, 0, 0) := by decide +kernel
theorem vr_140_94 : zrx 140 94 = some (.goto (-87), 0, 0) := by decide +kernel
theorem vr_140_97 : zrx 140 97 = some (.iload 4, 0, 0) := by decide +kernel
theorem vr_140_99 : zrx 140 99 = some (.bipush (-9), 0, 0) := by decide +kernel
theorem vr_140_101 : zrx 140 101 = some (.if_icmp .ne 7, 0, 0) := by decide +kernel
theorem vr_140_104 : zrx 140 104 = some (.iconst (-1), 0, 0) := by decide +kernel
theorem vr_140_105 : zrx 140 105 = some (.goto 5, 0, 0) := by decide +kernel
theorem vr_140_108 : zrx 140 108 = some (.iload 4, 0, 0) := by decide +kernel
theorem vr_140_110 : zrx 140 110 = some (.ireturn, 0, 0) := by decide +kernel
theorem vr_141_0 : zrx 141 0 = some (.aload_n 0, 0, 0) := by decide +kernel
theorem vr_141_1 : zrx 141 1 = some (.aload_n 1, 0, 0) := by decide +kernel
theorem vr_141_2 : zrx 141 2 = some (.aload_n 1, 0, 0) := by decide +kernel
theorem vr_141_3 : zrx 141 3 = some (.getfield 141, 16, 6) := by decide +kernel
theorem vr_141_6 : zrx 141 6 = some (.iconst (-1), 0, 0) := by decide +kernel
theorem vr_141_7 : zrx 141 7 = some (.invokevirtual 144, 140, 190) := by decide +kernel
theorem vr_141_10 : zrx 141 10 = some (.ireturn, 0, 0) := by decide +kernel
theorem C_mAF (n : Nat) (A : Nat) (d : Int32) (h : List zC) (u : Nat) : zL zrx zi n 123 0 [(0, .ref A), (1, .int d)] [] h u (fun o h2 _ => h2 = h ∧ o = .inl (some (.int (if foA (iv h A 9) (iv h A 10) (iv h A 11) d then 1 else 0)))) := by
  refine zSaload (m := 1) (k := 0) vr_123_0 rfl rfl rfl ?_
  refine zLget vr_123_1 rfl (fun p5217 w5217 e5217 t5217 g5217 => ?_)
  cases e5217
  refine zSp0 (pc' := 5) (st' := .int (1) :: _) vr_123_4 rfl rfl ?_
  refine zSb2 (f := fun x y => decide (x = y)) (off := 11) (t := 16) vr_123_5 rfl rfl rfl (fun x5219 y5219 e5219 f5219 q5219 => ?_) (fun x5219 y5219 e5219 f5219 q5219 => ?_)
  · cases e5219
    cases f5219
    have c5219 := of_decide_eq_true q5219
    refine zSaload (m := 1) (k := 0) vr_123_16 rfl rfl rfl ?_
    refine zLget vr_123_17 rfl (fun p5221 w5221 e5221 t5221 g5221 => ?_)
    cases e5221
    refine zSiload (m := 1) (k := 1) vr_123_20 rfl rfl rfl (fun x5222 e5222 => ?_)
    cases e5222
    refine zSb2 (f := fun x y => decide (y < x)) (off := 23) (t := 44) vr_123_21 rfl rfl rfl (fun x5223 y5223 e5223 f5223 q5223 => ?_) (fun x5223 y5223 e5223 f5223 q5223 => ?_)
    · cases e5223
      cases f5223
      have c5223 := of_decide_eq_true q5223
      refine zSp0 (pc' := 45) (st' := .int (0) :: _) vr_123_44 rfl rfl ?_
      refine zLiret vr_123_45 rfl (fun x5225 e5225 => ?_)
      cases e5225
      have f : ¬ iv h A 10 ≤ d := by
        rw [iv_of g5221]
        exact Int32.not_le.mpr c5223
      exact ⟨rfl, congrArg (fun z : Int32 => Sum.inl (some (Value.int z))) (if_neg (fun z : foA (iv h A 9) (iv h A 10) (iv h A 11) d => f z.2.1)).symm⟩
    · cases e5223
      cases f5223
      have c5223 := ndc q5223
      refine zSaload (m := 1) (k := 0) vr_123_24 rfl rfl rfl ?_
      refine zLget vr_123_25 rfl (fun p5227 w5227 e5227 t5227 g5227 => ?_)
      cases e5227
      refine zSp0 (pc' := 29) (st' := .int (1) :: _) vr_123_28 rfl rfl ?_
      refine zSb2 (f := fun x y => decide (x = y)) (off := 11) (t := 40) vr_123_29 rfl rfl rfl (fun x5229 y5229 e5229 f5229 q5229 => ?_) (fun x5229 y5229 e5229 f5229 q5229 => ?_)
      · cases e5229
        cases f5229
        have c5229 := of_decide_eq_true q5229
        refine zSp0 (pc' := 41) (st' := .int (1) :: _) vr_123_40 rfl rfl ?_
        refine zSgo (t := 45) vr_123_41 rfl rfl ?_
        refine zLiret vr_123_45 rfl (fun x5232 e5232 => ?_)
        cases e5232
        have f : iv h A 10 ≤ d := by
          rw [iv_of g5221]
          exact Int32.not_lt.mp c5223
        exact ⟨rfl, congrArg (fun z : Int32 => Sum.inl (some (Value.int z))) (if_pos (show foA (iv h A 9) (iv h A 10) (iv h A 11) d from ⟨Or.inl ((iv_of g5217).trans c5219), f, Or.inl ((iv_of g5227).trans c5229)⟩)).symm⟩
      · cases e5229
        cases f5229
        have c5229 := ndc q5229
        refine zSiload (m := 1) (k := 1) vr_123_32 rfl rfl rfl (fun x5233 e5233 => ?_)
        cases e5233
        refine zSaload (m := 1) (k := 0) vr_123_33 rfl rfl rfl ?_
        refine zLget vr_123_34 rfl (fun p5235 w5235 e5235 t5235 g5235 => ?_)
        cases e5235
        refine zSb2 (f := fun x y => decide (y ≤ x)) (off := 7) (t := 44) vr_123_37 rfl rfl rfl (fun x5236 y5236 e5236 f5236 q5236 => ?_) (fun x5236 y5236 e5236 f5236 q5236 => ?_)
        · cases e5236
          cases f5236
          have c5236 := of_decide_eq_true q5236
          refine zSp0 (pc' := 45) (st' := .int (0) :: _) vr_123_44 rfl rfl ?_
          refine zLiret vr_123_45 rfl (fun x5238 e5238 => ?_)
          cases e5238
          have f : ¬ d < iv h A 11 := by
            rw [iv_of g5235]
            exact Int32.not_lt.mpr c5236
          exact ⟨rfl, congrArg (fun z : Int32 => Sum.inl (some (Value.int z))) (if_neg (fun z : foA (iv h A 9) (iv h A 10) (iv h A 11) d => z.2.2.elim (fun y => c5229 ((iv_of g5227).symm.trans y)) f)).symm⟩
        · cases e5236
          cases f5236
          have c5236 := ndc q5236
          refine zSp0 (pc' := 41) (st' := .int (1) :: _) vr_123_40 rfl rfl ?_
          refine zSgo (t := 45) vr_123_41 rfl rfl ?_
          refine zLiret vr_123_45 rfl (fun x5241 e5241 => ?_)
          cases e5241
          have f : iv h A 10 ≤ d := by
            rw [iv_of g5221]
            exact Int32.not_lt.mp c5223
          have f2 : d < iv h A 11 := by
            rw [iv_of g5235]
            exact Int32.not_le.mp c5236
          exact ⟨rfl, congrArg (fun z : Int32 => Sum.inl (some (Value.int z))) (if_pos (show foA (iv h A 9) (iv h A 10) (iv h A 11) d from ⟨Or.inl ((iv_of g5217).trans c5219), f, Or.inr f2⟩)).symm⟩
  · cases e5219
    cases f5219
    have c5219 := ndc q5219
    refine zSaload (m := 1) (k := 0) vr_123_8 rfl rfl rfl ?_
    refine zLget vr_123_9 rfl (fun p5243 w5243 e5243 t5243 g5243 => ?_)
    cases e5243
    refine zSp0 (pc' := 13) (st' := .int (2) :: _) vr_123_12 rfl rfl ?_
    refine zSb2 (f := fun x y => decide (¬ x = y)) (off := 31) (t := 44) vr_123_13 rfl rfl rfl (fun x5245 y5245 e5245 f5245 q5245 => ?_) (fun x5245 y5245 e5245 f5245 q5245 => ?_)
    · cases e5245
      cases f5245
      have c5245 := of_decide_eq_true q5245
      refine zSp0 (pc' := 45) (st' := .int (0) :: _) vr_123_44 rfl rfl ?_
      refine zLiret vr_123_45 rfl (fun x5247 e5247 => ?_)
      cases e5247
      exact ⟨rfl, congrArg (fun z : Int32 => Sum.inl (some (Value.int z))) (if_neg (fun z : foA (iv h A 9) (iv h A 10) (iv h A 11) d => z.1.elim (fun y => c5219 ((iv_of g5217).symm.trans y)) (fun y => c5245 ((iv_of g5243).symm.trans y)))).symm⟩
    · cases e5245
      cases f5245
      have c5245 := ndc q5245
      refine zSaload (m := 1) (k := 0) vr_123_16 rfl rfl rfl ?_
      refine zLget vr_123_17 rfl (fun p5249 w5249 e5249 t5249 g5249 => ?_)
      cases e5249
      refine zSiload (m := 1) (k := 1) vr_123_20 rfl rfl rfl (fun x5250 e5250 => ?_)
      cases e5250
      refine zSb2 (f := fun x y => decide (y < x)) (off := 23) (t := 44) vr_123_21 rfl rfl rfl (fun x5251 y5251 e5251 f5251 q5251 => ?_) (fun x5251 y5251 e5251 f5251 q5251 => ?_)
      · cases e5251
        cases f5251
        have c5251 := of_decide_eq_true q5251
        refine zSp0 (pc' := 45) (st' := .int (0) :: _) vr_123_44 rfl rfl ?_
        refine zLiret vr_123_45 rfl (fun x5253 e5253 => ?_)
        cases e5253
        have f : ¬ iv h A 10 ≤ d := by
          rw [iv_of g5249]
          exact Int32.not_le.mpr c5251
        exact ⟨rfl, congrArg (fun z : Int32 => Sum.inl (some (Value.int z))) (if_neg (fun z : foA (iv h A 9) (iv h A 10) (iv h A 11) d => f z.2.1)).symm⟩
      · cases e5251
        cases f5251
        have c5251 := ndc q5251
        refine zSaload (m := 1) (k := 0) vr_123_24 rfl rfl rfl ?_
        refine zLget vr_123_25 rfl (fun p5255 w5255 e5255 t5255 g5255 => ?_)
        cases e5255
        refine zSp0 (pc' := 29) (st' := .int (1) :: _) vr_123_28 rfl rfl ?_
        refine zSb2 (f := fun x y => decide (x = y)) (off := 11) (t := 40) vr_123_29 rfl rfl rfl (fun x5257 y5257 e5257 f5257 q5257 => ?_) (fun x5257 y5257 e5257 f5257 q5257 => ?_)
        · cases e5257
          cases f5257
          have c5257 := of_decide_eq_true q5257
          refine zSp0 (pc' := 41) (st' := .int (1) :: _) vr_123_40 rfl rfl ?_
          refine zSgo (t := 45) vr_123_41 rfl rfl ?_
          refine zLiret vr_123_45 rfl (fun x5260 e5260 => ?_)
          cases e5260
          have f : iv h A 10 ≤ d := by
            rw [iv_of g5249]
            exact Int32.not_lt.mp c5251
          exact ⟨rfl, congrArg (fun z : Int32 => Sum.inl (some (Value.int z))) (if_pos (show foA (iv h A 9) (iv h A 10) (iv h A 11) d from ⟨Or.inr ((iv_of g5243).trans (Decidable.not_not.mp c5245)), f, Or.inl ((iv_of g5255).trans c5257)⟩)).symm⟩
        · cases e5257
          cases f5257
          have c5257 := ndc q5257
          refine zSiload (m := 1) (k := 1) vr_123_32 rfl rfl rfl (fun x5261 e5261 => ?_)
          cases e5261
          refine zSaload (m := 1) (k := 0) vr_123_33 rfl rfl rfl ?_
          refine zLget vr_123_34 rfl (fun p5263 w5263 e5263 t5263 g5263 => ?_)
          cases e5263
          refine zSb2 (f := fun x y => decide (y ≤ x)) (off := 7) (t := 44) vr_123_37 rfl rfl rfl (fun x5264 y5264 e5264 f5264 q5264 => ?_) (fun x5264 y5264 e5264 f5264 q5264 => ?_)
          · cases e5264
            cases f5264
            have c5264 := of_decide_eq_true q5264
            refine zSp0 (pc' := 45) (st' := .int (0) :: _) vr_123_44 rfl rfl ?_
            refine zLiret vr_123_45 rfl (fun x5266 e5266 => ?_)
            cases e5266
            have f : ¬ d < iv h A 11 := by
              rw [iv_of g5263]
              exact Int32.not_lt.mpr c5264
            exact ⟨rfl, congrArg (fun z : Int32 => Sum.inl (some (Value.int z))) (if_neg (fun z : foA (iv h A 9) (iv h A 10) (iv h A 11) d => z.2.2.elim (fun y => c5257 ((iv_of g5255).symm.trans y)) f)).symm⟩
          · cases e5264
            cases f5264
            have c5264 := ndc q5264
            refine zSp0 (pc' := 41) (st' := .int (1) :: _) vr_123_40 rfl rfl ?_
            refine zSgo (t := 45) vr_123_41 rfl rfl ?_
            refine zLiret vr_123_45 rfl (fun x5269 e5269 => ?_)
            cases e5269
            have f : iv h A 10 ≤ d := by
              rw [iv_of g5249]
              exact Int32.not_lt.mp c5251
            have f2 : d < iv h A 11 := by
              rw [iv_of g5263]
              exact Int32.not_le.mp c5264
            exact ⟨rfl, congrArg (fun z : Int32 => Sum.inl (some (Value.int z))) (if_pos (show foA (iv h A 9) (iv h A 10) (iv h A 11) d from ⟨Or.inr ((iv_of g5243).trans (Decidable.not_not.mp c5245)), f, Or.inr f2⟩)).symm⟩
theorem C_mIF (n : Nat) (x d wo : Int32) (h : List zC) (u : Nat) {el A : Nat} {cnt : Int32} (hS : Stc h) (hL : gF h 225 1 = some (.ref el)) (hs : gF h 225 2 = some (.int cnt)) (hq : gF h el x.toNatClampNeg = some (.ref A)) : zL zrx zi n 138 0 [(0, .ref 213), (1, .int x), (2, .int d), (3, .int wo)] [] h u (fun o h2 _ => h2 = h ∧ o = .inl (some (.int (if (¬ x = wo ∧ foA (iv h A 9) (iv h A 10) (iv h A 11) d) then 1 else 0)))) := by
  refine zSiload (m := 1) (k := 1) vr_138_0 rfl rfl rfl (fun x5270 e5270 => ?_)
  cases e5270
  refine zSiload (m := 1) (k := 3) vr_138_1 rfl rfl rfl (fun x5271 e5271 => ?_)
  cases e5271
  refine zSb2 (f := fun x y => decide (x = y)) (off := 27) (t := 29) vr_138_2 rfl rfl rfl (fun x5272 y5272 e5272 f5272 q5272 => ?_) (fun x5272 y5272 e5272 f5272 q5272 => ?_)
  · cases e5272
    cases f5272
    have c5272 := of_decide_eq_true q5272
    refine zSp0 (pc' := 30) (st' := .int (0) :: _) vr_138_29 rfl rfl ?_
    refine zLiret vr_138_30 rfl (fun x5274 e5274 => ?_)
    cases e5274
    exact ⟨rfl, congrArg (fun z : Int32 => Sum.inl (some (Value.int z))) (if_neg (fun z : (¬ x = wo ∧ foA (iv h A 9) (iv h A 10) (iv h A 11) d) => z.1 c5272)).symm⟩
  · cases e5272
    cases f5272
    have c5272 := ndc q5272
    refine zSaload (m := 1) (k := 0) vr_138_5 rfl rfl rfl ?_
    refine zLget vr_138_6 rfl (fun p5276 w5276 e5276 t5276 g5276 => ?_)
    cases e5276
    first | (rw [(st_213_9 hS)] at g5276; cases g5276) | skip
    refine zSiload (m := 1) (k := 1) vr_138_9 rfl rfl rfl (fun x5277 e5277 => ?_)
    cases e5277
    refine zScall vr_138_10 rfl rfl rfl (fun m5278 _ => C_get _ _ _ _ _ hL hs) (fun v5278 h5278 u5278 q5278 => ?_) (fun E5278 h5278 u5278 q5278 => ?_)
    · obtain ⟨eh5278, y5278, w5278, z5278, k5278⟩ := q5278
      replace eh5278 := eh5278.symm
      subst eh5278
      cases z5278
      show zL zrx zi _ 138 15 [(0, _), (1, _), (2, _), (3, _)] [_] _ _ _
      refine zLcst vr_138_15 rfl (fun p5279 e5279 => ?_)
      cases e5279
      have e1 := k5278
      rw [hq] at e1
      cases e1
      refine zSiload (m := 1) (k := 2) vr_138_18 rfl rfl rfl (fun x5280 e5280 => ?_)
      cases e5280
      refine zScall vr_138_19 rfl rfl rfl (fun m5281 _ => C_mAF _ _ _ _ _) (fun v5281 h5281 u5281 q5281 => ?_) (fun E5281 h5281 u5281 q5281 => ?_)
      · obtain ⟨eh5281, z5281⟩ := q5281
        replace eh5281 := eh5281.symm
        subst eh5281
        cases z5281
        show zL zrx zi _ 138 22 [(0, _), (1, _), (2, _), (3, _)] [_] _ _ _
        refine zSb1 (f := fun x => decide (x = 0)) (off := 7) (t := 29) vr_138_22 rfl rfl rfl (fun x5282 e5282 q5282 => ?_) (fun x5282 e5282 q5282 => ?_)
        · cases e5282
          have c5282 := of_decide_eq_true q5282
          refine zSp0 (pc' := 30) (st' := .int (0) :: _) vr_138_29 rfl rfl ?_
          refine zLiret vr_138_30 rfl (fun x5284 e5284 => ?_)
          cases e5284
          have f : ¬ foA (iv h A 9) (iv h A 10) (iv h A 11) d := fun z => by
            have y := c5282
            rw [if_pos z] at y
            exact absurd y (by decide)
          exact ⟨rfl, congrArg (fun z : Int32 => Sum.inl (some (Value.int z))) (if_neg (fun z : (¬ x = wo ∧ foA (iv h A 9) (iv h A 10) (iv h A 11) d) => f z.2)).symm⟩
        · cases e5282
          have c5282 := ndc q5282
          refine zSp0 (pc' := 26) (st' := .int (1) :: _) vr_138_25 rfl rfl ?_
          refine zSgo (t := 30) vr_138_26 rfl rfl ?_
          refine zLiret vr_138_30 rfl (fun x5287 e5287 => ?_)
          cases e5287
          have f : foA (iv h A 9) (iv h A 10) (iv h A 11) d := by
            by_cases z : foA (iv h A 9) (iv h A 10) (iv h A 11) d
            · exact z
            · have y := c5282
              rw [if_neg z] at y
              exact absurd rfl y
          exact ⟨rfl, congrArg (fun z : Int32 => Sum.inl (some (Value.int z))) (if_pos (show (¬ x = wo ∧ foA (iv h A 9) (iv h A 10) (iv h A 11) d) from ⟨c5272, f⟩)).symm⟩
      · obtain ⟨-, z⟩ := q5281
        cases z
    · obtain ⟨-, -, w, z, -⟩ := q5278
      cases z
set_option maxRecDepth 20000 in
theorem C_mls_loop {h : List zC} {A AS AN : Nat} {F : Nat → Int32} (az : AZ A AS AN h F) : ∀ (n k : Nat) (r : Int32) (u : Nat), k ≤ (F 8).toNatClampNeg → lsF F k = r → zL zrx zi n 121 4 [(2, .int (Int32.ofNat k)), (1, .int r), (0, .ref A)] [] h u (fun o h2 _ => h2 = h ∧ o = .inl (some (.int (lsF F (F 8).toNatClampNeg))))
  | 0, _, _, _ => fun _ _ => trivial
  | n + 1, k, r, u => fun hk hD => by
    have n2 : (F 8).toNatClampNeg ≤ 2 := f8_2 az.2.2.2.2.2.1
    have kk := (toNat_ofNat (m := k) (by omega))
    have n0 : (F 8).toInt = ((F 8).toNatClampNeg : Int) := by
      rcases az.2.2.2.2.2.1 with z | z | z <;> rw [z] <;> rfl
    have a6 : gF h A 6 = some (.int (F 8)) := az.1 (6, 8) (by decide)
    refine zLp vr_121_4 rfl rfl ?_
    refine zSaload (m := 1) (k := 0) vr_121_5 rfl rfl rfl ?_
    refine zLget vr_121_6 rfl (fun p5289 w5289 e5289 t5289 g5289 => ?_)
    cases e5289
    first | (rw [a6] at g5289; cases g5289) | (rw [az.2.1] at g5289; cases g5289) | (rw [az.2.2.1] at g5289; cases g5289) | (rw [hs9] at g5289; cases g5289) | (rw [hn9] at g5289; cases g5289) | skip
    refine zSb2 (f := fun x y => decide (y ≤ x)) (off := 36) (t := 45) vr_121_9 rfl rfl rfl (fun x5290 y5290 e5290 f5290 q5290 => ?_) (fun x5290 y5290 e5290 f5290 q5290 => ?_)
    · cases e5290
      cases f5290
      have c5290 := of_decide_eq_true q5290
      refine zSiload (m := 1) (k := 1) vr_121_45 rfl rfl rfl (fun x5291 e5291 => ?_)
      cases e5291
      refine zLiret vr_121_46 rfl (fun x5292 e5292 => ?_)
      cases e5292
      have y := c5290
      rw [i32_le, kk.2] at y
      have e : k = (F 8).toNatClampNeg := by omega
      subst e
      rw [hD]
      exact ⟨rfl, rfl⟩
    · cases e5290
      cases f5290
      have c5290 := ndc q5290
      have hlt : k < (F 8).toNatClampNeg := by
        have y := c5290
        rw [i32_le, kk.2] at y
        omega
      have hs9 : gF h AS (Int32.ofNat k).toNatClampNeg = some (.int (sg2 (F (9 + k)))) := by
        rw [kk.1]
        exact az.2.2.2.1 k (by omega)
      have hn9 : gF h AN (Int32.ofNat k).toNatClampNeg = some (.int (F (11 + k))) := by
        rw [kk.1]
        exact az.2.2.2.2.1 k (by omega)
      refine zSaload (m := 1) (k := 0) vr_121_12 rfl rfl rfl ?_
      refine zLget vr_121_13 rfl (fun p5294 w5294 e5294 t5294 g5294 => ?_)
      cases e5294
      first | (rw [a6] at g5294; cases g5294) | (rw [az.2.1] at g5294; cases g5294) | (rw [az.2.2.1] at g5294; cases g5294) | (rw [hs9] at g5294; cases g5294) | (rw [hn9] at g5294; cases g5294) | skip
      refine zSiload (m := 1) (k := 2) vr_121_16 rfl rfl rfl (fun x5295 e5295 => ?_)
      cases e5295
      refine zLiald vr_121_17 rfl (fun p5296 x5296 w5296 e5296 f5296 c5296 t5296 g5296 => ?_)
      cases e5296
      cases f5296
      first | (rw [a6] at g5296; cases g5296) | (rw [az.2.1] at g5296; cases g5296) | (rw [az.2.2.1] at g5296; cases g5296) | (rw [hs9] at g5296; cases g5296) | (rw [hn9] at g5296; cases g5296) | skip
      refine zSp0 (pc' := 19) (st' := .int (2) :: _) vr_121_18 rfl rfl ?_
      refine zSb2 (f := fun x y => decide (¬ x = y)) (off := 18) (t := 37) vr_121_19 rfl rfl rfl (fun x5298 y5298 e5298 f5298 q5298 => ?_) (fun x5298 y5298 e5298 f5298 q5298 => ?_)
      · cases e5298
        cases f5298
        have c5298 := of_decide_eq_true q5298
        refine zSiload (m := 1) (k := 1) vr_121_37 rfl rfl rfl (fun x5299 e5299 => ?_)
        cases e5299
        refine zSistore (m := 1) (k := 1) vr_121_38 rfl rfl (fun x5300 e5300 => ?_)
        cases e5300
        show zL zrx zi _ 121 39 [(1, _), (2, _), (0, _)] [] _ _ _
        refine zSiinc vr_121_39 rfl rfl (fun x5301 e5301 => ?_)
        cases e5301
        show zL zrx zi _ 121 42 [(2, _), (1, _), (0, _)] [] _ _ _
        refine zSgo (t := 4) vr_121_42 rfl rfl ?_
        rw [ofNat_succ]
        refine zL_pm _ _ _ [(2, _), (1, _), (0, _)] _ _ _ _ _ ⟨(List.forall_mem_cons.mpr ⟨List.mem_cons_self, (List.forall_mem_cons.mpr ⟨(List.mem_cons_of_mem _ List.mem_cons_self), (List.forall_mem_cons.mpr ⟨(List.mem_cons_of_mem _ (List.mem_cons_of_mem _ List.mem_cons_self)), (fun _ h => absurd h List.not_mem_nil)⟩)⟩)⟩), show ([2, 1, 0] : List Nat).Nodup by decide⟩ (C_mls_loop az n (k + 1) _ _ (by omega) ?_)
        conv => lhs; unfold lsF
        rw [if_neg c5298, hD]
      · cases e5298
        cases f5298
        have c5298 := ndc q5298
        refine zSiload (m := 1) (k := 1) vr_121_22 rfl rfl rfl (fun x5303 e5303 => ?_)
        cases e5303
        refine zSaload (m := 1) (k := 0) vr_121_23 rfl rfl rfl ?_
        refine zLget vr_121_24 rfl (fun p5305 w5305 e5305 t5305 g5305 => ?_)
        cases e5305
        first | (rw [a6] at g5305; cases g5305) | (rw [az.2.1] at g5305; cases g5305) | (rw [az.2.2.1] at g5305; cases g5305) | (rw [hs9] at g5305; cases g5305) | (rw [hn9] at g5305; cases g5305) | skip
        refine zSiload (m := 1) (k := 2) vr_121_27 rfl rfl rfl (fun x5306 e5306 => ?_)
        cases e5306
        refine zLiald vr_121_28 rfl (fun p5307 x5307 w5307 e5307 f5307 c5307 t5307 g5307 => ?_)
        cases e5307
        cases f5307
        first | (rw [a6] at g5307; cases g5307) | (rw [az.2.1] at g5307; cases g5307) | (rw [az.2.2.1] at g5307; cases g5307) | (rw [hs9] at g5307; cases g5307) | (rw [hn9] at g5307; cases g5307) | skip
        refine zSp0 (pc' := 30) (st' := .int (1) :: _) vr_121_29 rfl rfl ?_
        refine zS2 (f := fun x y => .int (x + y)) vr_121_30 rfl rfl (fun x5309 y5309 e5309 f5309 => ?_)
        cases e5309
        cases f5309
        refine zScall vr_121_31 rfl rfl rfl (fun m5310 _ => C_mxI _ _ _ _ _) (fun v5310 h5310 u5310 q5310 => ?_) (fun E5310 h5310 u5310 q5310 => ?_)
        · obtain ⟨eh5310, z5310⟩ := q5310
          subst eh5310
          cases z5310
          show zL zrx zi _ 121 34 [(2, _), (1, _), (0, _)] [_] _ _ _
          refine zSgo (t := 38) vr_121_34 rfl rfl ?_
          refine zSistore (m := 1) (k := 1) vr_121_38 rfl rfl (fun x5312 e5312 => ?_)
          cases e5312
          show zL zrx zi _ 121 39 [(1, _), (2, _), (0, _)] [] _ _ _
          refine zSiinc vr_121_39 rfl rfl (fun x5313 e5313 => ?_)
          cases e5313
          show zL zrx zi _ 121 42 [(2, _), (1, _), (0, _)] [] _ _ _
          refine zSgo (t := 4) vr_121_42 rfl rfl ?_
          rw [ofNat_succ]
          refine zL_pm _ _ _ [(2, _), (1, _), (0, _)] _ _ _ _ _ ⟨(List.forall_mem_cons.mpr ⟨List.mem_cons_self, (List.forall_mem_cons.mpr ⟨(List.mem_cons_of_mem _ List.mem_cons_self), (List.forall_mem_cons.mpr ⟨(List.mem_cons_of_mem _ (List.mem_cons_of_mem _ List.mem_cons_self)), (fun _ h => absurd h List.not_mem_nil)⟩)⟩)⟩), show ([2, 1, 0] : List Nat).Nodup by decide⟩ (C_mls_loop az n (k + 1) _ _ (by omega) ?_)
          conv => lhs; unfold lsF
          rw [if_pos (Decidable.not_not.mp c5298), hD]
        · obtain ⟨-, z⟩ := q5310
          cases z
theorem C_mls (n : Nat) (A : Nat) (h : List zC) (u : Nat) {AS AN : Nat} {F : Nat → Int32} (az : AZ A AS AN h F) : zL zrx zi n 121 0 [(0, .ref A)] [] h u (fun o h2 _ => h2 = h ∧ o = .inl (some (.int (lsF F (F 8).toNatClampNeg)))) := by
  refine zSp0 (pc' := 1) (st' := .int (0) :: _) vr_121_0 rfl rfl ?_
  refine zSistore (m := 1) (k := 1) vr_121_1 rfl rfl (fun x5316 e5316 => ?_)
  cases e5316
  show zL zrx zi _ 121 2 [(1, _), (0, _)] [] _ _ _
  refine zSp0 (pc' := 3) (st' := .int (0) :: _) vr_121_2 rfl rfl ?_
  refine zSistore (m := 1) (k := 2) vr_121_3 rfl rfl (fun x5318 e5318 => ?_)
  cases e5318
  show zL zrx zi _ 121 4 [(2, _), (1, _), (0, _)] [] _ _ _
  exact zL_pm _ _ _ [(2, _), (1, _), (0, _)] _ _ _ _ _ ⟨(List.forall_mem_cons.mpr ⟨List.mem_cons_self, (List.forall_mem_cons.mpr ⟨(List.mem_cons_of_mem _ List.mem_cons_self), (List.forall_mem_cons.mpr ⟨(List.mem_cons_of_mem _ (List.mem_cons_of_mem _ List.mem_cons_self)), (fun _ h => absurd h List.not_mem_nil)⟩)⟩)⟩), show ([2, 1, 0] : List Nat).Nodup by decide⟩ (C_mls_loop az _ 0 _ _ (Nat.zero_le _) rfl)
set_option maxRecDepth 20000 in
theorem C_mms_loop {h : List zC} {A AS AN : Nat} {F : Nat → Int32} (az : AZ A AS AN h F) : ∀ (n k : Nat) (r : Int32) (u : Nat), k ≤ (F 8).toNatClampNeg → msF F k = r → zL zrx zi n 122 6 [(2, .int (Int32.ofNat k)), (1, .int r), (0, .ref A)] [] h u (fun o h2 _ => h2 = h ∧ o = .inl (some (.int (msF F (F 8).toNatClampNeg))))
  | 0, _, _, _ => fun _ _ => trivial
  | n + 1, k, r, u => fun hk hD => by
    have n2 : (F 8).toNatClampNeg ≤ 2 := f8_2 az.2.2.2.2.2.1
    have kk := (toNat_ofNat (m := k) (by omega))
    have n0 : (F 8).toInt = ((F 8).toNatClampNeg : Int) := by
      rcases az.2.2.2.2.2.1 with z | z | z <;> rw [z] <;> rfl
    have a6 : gF h A 6 = some (.int (F 8)) := az.1 (6, 8) (by decide)
    refine zLp vr_122_6 rfl rfl ?_
    refine zSaload (m := 1) (k := 0) vr_122_7 rfl rfl rfl ?_
    refine zLget vr_122_8 rfl (fun p5320 w5320 e5320 t5320 g5320 => ?_)
    cases e5320
    first | (rw [a6] at g5320; cases g5320) | (rw [az.2.1] at g5320; cases g5320) | (rw [az.2.2.1] at g5320; cases g5320) | (rw [hs9] at g5320; cases g5320) | (rw [hn9] at g5320; cases g5320) | skip
    refine zSb2 (f := fun x y => decide (y ≤ x)) (off := 36) (t := 47) vr_122_11 rfl rfl rfl (fun x5321 y5321 e5321 f5321 q5321 => ?_) (fun x5321 y5321 e5321 f5321 q5321 => ?_)
    · cases e5321
      cases f5321
      have c5321 := of_decide_eq_true q5321
      refine zSiload (m := 1) (k := 1) vr_122_47 rfl rfl rfl (fun x5322 e5322 => ?_)
      cases e5322
      refine zLiret vr_122_48 rfl (fun x5323 e5323 => ?_)
      cases e5323
      have y := c5321
      rw [i32_le, kk.2] at y
      have e : k = (F 8).toNatClampNeg := by omega
      subst e
      rw [hD]
      exact ⟨rfl, rfl⟩
    · cases e5321
      cases f5321
      have c5321 := ndc q5321
      have hlt : k < (F 8).toNatClampNeg := by
        have y := c5321
        rw [i32_le, kk.2] at y
        omega
      have hs9 : gF h AS (Int32.ofNat k).toNatClampNeg = some (.int (sg2 (F (9 + k)))) := by
        rw [kk.1]
        exact az.2.2.2.1 k (by omega)
      have hn9 : gF h AN (Int32.ofNat k).toNatClampNeg = some (.int (F (11 + k))) := by
        rw [kk.1]
        exact az.2.2.2.2.1 k (by omega)
      refine zSaload (m := 1) (k := 0) vr_122_14 rfl rfl rfl ?_
      refine zLget vr_122_15 rfl (fun p5325 w5325 e5325 t5325 g5325 => ?_)
      cases e5325
      first | (rw [a6] at g5325; cases g5325) | (rw [az.2.1] at g5325; cases g5325) | (rw [az.2.2.1] at g5325; cases g5325) | (rw [hs9] at g5325; cases g5325) | (rw [hn9] at g5325; cases g5325) | skip
      refine zSiload (m := 1) (k := 2) vr_122_18 rfl rfl rfl (fun x5326 e5326 => ?_)
      cases e5326
      refine zLiald vr_122_19 rfl (fun p5327 x5327 w5327 e5327 f5327 c5327 t5327 g5327 => ?_)
      cases e5327
      cases f5327
      first | (rw [a6] at g5327; cases g5327) | (rw [az.2.1] at g5327; cases g5327) | (rw [az.2.2.1] at g5327; cases g5327) | (rw [hs9] at g5327; cases g5327) | (rw [hn9] at g5327; cases g5327) | skip
      refine zSp0 (pc' := 21) (st' := .int (1) :: _) vr_122_20 rfl rfl ?_
      refine zSb2 (f := fun x y => decide (¬ x = y)) (off := 18) (t := 39) vr_122_21 rfl rfl rfl (fun x5329 y5329 e5329 f5329 q5329 => ?_) (fun x5329 y5329 e5329 f5329 q5329 => ?_)
      · cases e5329
        cases f5329
        have c5329 := of_decide_eq_true q5329
        refine zSiload (m := 1) (k := 1) vr_122_39 rfl rfl rfl (fun x5330 e5330 => ?_)
        cases e5330
        refine zSistore (m := 1) (k := 1) vr_122_40 rfl rfl (fun x5331 e5331 => ?_)
        cases e5331
        show zL zrx zi _ 122 41 [(1, _), (2, _), (0, _)] [] _ _ _
        refine zSiinc vr_122_41 rfl rfl (fun x5332 e5332 => ?_)
        cases e5332
        show zL zrx zi _ 122 44 [(2, _), (1, _), (0, _)] [] _ _ _
        refine zSgo (t := 6) vr_122_44 rfl rfl ?_
        rw [ofNat_succ]
        refine zL_pm _ _ _ [(2, _), (1, _), (0, _)] _ _ _ _ _ ⟨(List.forall_mem_cons.mpr ⟨List.mem_cons_self, (List.forall_mem_cons.mpr ⟨(List.mem_cons_of_mem _ List.mem_cons_self), (List.forall_mem_cons.mpr ⟨(List.mem_cons_of_mem _ (List.mem_cons_of_mem _ List.mem_cons_self)), (fun _ h => absurd h List.not_mem_nil)⟩)⟩)⟩), show ([2, 1, 0] : List Nat).Nodup by decide⟩ (C_mms_loop az n (k + 1) _ _ (by omega) ?_)
        conv => lhs; unfold msF
        rw [if_neg c5329, hD]
      · cases e5329
        cases f5329
        have c5329 := ndc q5329
        refine zSiload (m := 1) (k := 1) vr_122_24 rfl rfl rfl (fun x5334 e5334 => ?_)
        cases e5334
        refine zSaload (m := 1) (k := 0) vr_122_25 rfl rfl rfl ?_
        refine zLget vr_122_26 rfl (fun p5336 w5336 e5336 t5336 g5336 => ?_)
        cases e5336
        first | (rw [a6] at g5336; cases g5336) | (rw [az.2.1] at g5336; cases g5336) | (rw [az.2.2.1] at g5336; cases g5336) | (rw [hs9] at g5336; cases g5336) | (rw [hn9] at g5336; cases g5336) | skip
        refine zSiload (m := 1) (k := 2) vr_122_29 rfl rfl rfl (fun x5337 e5337 => ?_)
        cases e5337
        refine zLiald vr_122_30 rfl (fun p5338 x5338 w5338 e5338 f5338 c5338 t5338 g5338 => ?_)
        cases e5338
        cases f5338
        first | (rw [a6] at g5338; cases g5338) | (rw [az.2.1] at g5338; cases g5338) | (rw [az.2.2.1] at g5338; cases g5338) | (rw [hs9] at g5338; cases g5338) | (rw [hn9] at g5338; cases g5338) | skip
        refine zSp0 (pc' := 32) (st' := .int (1) :: _) vr_122_31 rfl rfl ?_
        refine zS2 (f := fun x y => .int (x - y)) vr_122_32 rfl rfl (fun x5340 y5340 e5340 f5340 => ?_)
        cases e5340
        cases f5340
        refine zScall vr_122_33 rfl rfl rfl (fun m5341 _ => C_mnI _ _ _ _ _) (fun v5341 h5341 u5341 q5341 => ?_) (fun E5341 h5341 u5341 q5341 => ?_)
        · obtain ⟨eh5341, z5341⟩ := q5341
          subst eh5341
          cases z5341
          show zL zrx zi _ 122 36 [(2, _), (1, _), (0, _)] [_] _ _ _
          refine zSgo (t := 40) vr_122_36 rfl rfl ?_
          refine zSistore (m := 1) (k := 1) vr_122_40 rfl rfl (fun x5343 e5343 => ?_)
          cases e5343
          show zL zrx zi _ 122 41 [(1, _), (2, _), (0, _)] [] _ _ _
          refine zSiinc vr_122_41 rfl rfl (fun x5344 e5344 => ?_)
          cases e5344
          show zL zrx zi _ 122 44 [(2, _), (1, _), (0, _)] [] _ _ _
          refine zSgo (t := 6) vr_122_44 rfl rfl ?_
          rw [ofNat_succ]
          refine zL_pm _ _ _ [(2, _), (1, _), (0, _)] _ _ _ _ _ ⟨(List.forall_mem_cons.mpr ⟨List.mem_cons_self, (List.forall_mem_cons.mpr ⟨(List.mem_cons_of_mem _ List.mem_cons_self), (List.forall_mem_cons.mpr ⟨(List.mem_cons_of_mem _ (List.mem_cons_of_mem _ List.mem_cons_self)), (fun _ h => absurd h List.not_mem_nil)⟩)⟩)⟩), show ([2, 1, 0] : List Nat).Nodup by decide⟩ (C_mms_loop az n (k + 1) _ _ (by omega) ?_)
          conv => lhs; unfold msF
          rw [if_pos (Decidable.not_not.mp c5329), hD]
        · obtain ⟨-, z⟩ := q5341
          cases z
theorem C_mms (n : Nat) (A : Nat) (h : List zC) (u : Nat) {AS AN : Nat} {F : Nat → Int32} (az : AZ A AS AN h F) : zL zrx zi n 122 0 [(0, .ref A)] [] h u (fun o h2 _ => h2 = h ∧ o = .inl (some (.int (msF F (F 8).toNatClampNeg)))) := by
  refine zSp0 (pc' := 3) (st' := .int (999) :: _) vr_122_0 rfl rfl ?_
  refine zSistore (m := 1) (k := 1) vr_122_3 rfl rfl (fun x5347 e5347 => ?_)
  cases e5347
  show zL zrx zi _ 122 4 [(1, _), (0, _)] [] _ _ _
  refine zSp0 (pc' := 5) (st' := .int (0) :: _) vr_122_4 rfl rfl ?_
  refine zSistore (m := 1) (k := 2) vr_122_5 rfl rfl (fun x5349 e5349 => ?_)
  cases e5349
  show zL zrx zi _ 122 6 [(2, _), (1, _), (0, _)] [] _ _ _
  exact zL_pm _ _ _ [(2, _), (1, _), (0, _)] _ _ _ _ _ ⟨(List.forall_mem_cons.mpr ⟨List.mem_cons_self, (List.forall_mem_cons.mpr ⟨(List.mem_cons_of_mem _ List.mem_cons_self), (List.forall_mem_cons.mpr ⟨(List.mem_cons_of_mem _ (List.mem_cons_of_mem _ List.mem_cons_self)), (fun _ h => absurd h List.not_mem_nil)⟩)⟩)⟩), show ([2, 1, 0] : List Nat).Nodup by decide⟩ (C_mms_loop az _ 0 _ _ (Nat.zero_le _) rfl)
theorem C_mapp (n : Nat) (A D : Nat) (h : List zC) (u : Nat) {AS AN : Nat} {F : Nat → Int32} (az : AZ A AS AN h F) (lm : lmI F) (hci : CI h D) : zL zrx zi n 120 0 [(0, .ref A), (1, .ref D)] [] h u (fun o h2 _ => h2 = h ∧ o = .inl (some (.int (if okC F (iv h D 3) (iv h D 2) (iv h D 4) (iv h D 5) then 1 else 0)))) := by
  have a0 : gF h A 0 = some (.int (F 0)) := az.1 (0, 0) (by decide)
  have a1 : gF h A 1 = some (.int (F 1)) := az.1 (1, 1) (by decide)
  have a2 : gF h A 2 = some (.int (F 2)) := az.1 (2, 2) (by decide)
  have a3 : gF h A 3 = some (.int (F 3)) := az.1 (3, 3) (by decide)
  refine zSaload (m := 1) (k := 1) vr_120_0 rfl rfl rfl ?_
  refine zLget vr_120_1 rfl (fun p5351 w5351 e5351 t5351 g5351 => ?_)
  cases e5351
  first | (rw [a0] at g5351; cases g5351) | (rw [a1] at g5351; cases g5351) | (rw [a2] at g5351; cases g5351) | (rw [a3] at g5351; cases g5351) | skip
  refine zSaload (m := 1) (k := 0) vr_120_4 rfl rfl rfl ?_
  refine zLget vr_120_5 rfl (fun p5353 w5353 e5353 t5353 g5353 => ?_)
  cases e5353
  first | (rw [a0] at g5353; cases g5353) | (rw [a1] at g5353; cases g5353) | (rw [a2] at g5353; cases g5353) | (rw [a3] at g5353; cases g5353) | skip
  refine zSb2 (f := fun x y => decide (¬ x = y)) (off := 67) (t := 75) vr_120_8 rfl rfl rfl (fun x5354 y5354 e5354 f5354 q5354 => ?_) (fun x5354 y5354 e5354 f5354 q5354 => ?_)
  · cases e5354
    cases f5354
    have c5354 := of_decide_eq_true q5354
    refine zSp0 (pc' := 76) (st' := .int (0) :: _) vr_120_75 rfl rfl ?_
    refine zLiret vr_120_76 rfl (fun x5356 e5356 => ?_)
    cases e5356
    exact ⟨rfl, congrArg (fun z : Int32 => Sum.inl (some (Value.int z))) (if_neg (fun z : okC F (iv h D 3) (iv h D 2) (iv h D 4) (iv h D 5) => c5354 (by rw [← iv_of g5351]; exact z.1))).symm⟩
  · cases e5354
    cases f5354
    have c5354 := ndc q5354
    refine zSaload (m := 1) (k := 0) vr_120_11 rfl rfl rfl ?_
    refine zLget vr_120_12 rfl (fun p5358 w5358 e5358 t5358 g5358 => ?_)
    cases e5358
    first | (rw [a0] at g5358; cases g5358) | (rw [a1] at g5358; cases g5358) | (rw [a2] at g5358; cases g5358) | (rw [a3] at g5358; cases g5358) | skip
    refine zSaload (m := 1) (k := 1) vr_120_15 rfl rfl rfl ?_
    refine zLget vr_120_16 rfl (fun p5360 w5360 e5360 t5360 g5360 => ?_)
    cases e5360
    first | (rw [a0] at g5360; cases g5360) | (rw [a1] at g5360; cases g5360) | (rw [a2] at g5360; cases g5360) | (rw [a3] at g5360; cases g5360) | skip
    obtain ⟨rk2, hrk2⟩ := hci 2 (by omega)
    have e2 := g5360
    rw [hrk2] at e2
    cases e2
    refine zScall vr_120_19 rfl rfl rfl (fun m5361 _ => C_has _ _ _ _ _) (fun v5361 h5361 u5361 q5361 => ?_) (fun E5361 h5361 u5361 q5361 => ?_)
    · obtain ⟨eh5361, z5361⟩ := q5361
      replace eh5361 := eh5361.symm
      subst eh5361
      cases z5361
      show zL zrx zi _ 120 22 [(0, _), (1, _)] [_] _ _ _
      refine zSb1 (f := fun x => decide (x = 0)) (off := 53) (t := 75) vr_120_22 rfl rfl rfl (fun x5362 e5362 q5362 => ?_) (fun x5362 e5362 q5362 => ?_)
      · cases e5362
        have c5362 := of_decide_eq_true q5362
        refine zSp0 (pc' := 76) (st' := .int (0) :: _) vr_120_75 rfl rfl ?_
        refine zLiret vr_120_76 rfl (fun x5364 e5364 => ?_)
        cases e5364
        have f := hs_n c5362
        exact ⟨rfl, congrArg (fun z : Int32 => Sum.inl (some (Value.int z))) (if_neg (fun z : okC F (iv h D 3) (iv h D 2) (iv h D 4) (iv h D 5) => f (by rw [← iv_of g5360]; exact z.2.1))).symm⟩
      · cases e5362
        have c5362 := ndc q5362
        refine zSaload (m := 1) (k := 1) vr_120_25 rfl rfl rfl ?_
        refine zLget vr_120_26 rfl (fun p5366 w5366 e5366 t5366 g5366 => ?_)
        cases e5366
        first | (rw [a0] at g5366; cases g5366) | (rw [a1] at g5366; cases g5366) | (rw [a2] at g5366; cases g5366) | (rw [a3] at g5366; cases g5366) | skip
        refine zSaload (m := 1) (k := 0) vr_120_29 rfl rfl rfl ?_
        refine zLget vr_120_30 rfl (fun p5368 w5368 e5368 t5368 g5368 => ?_)
        cases e5368
        first | (rw [a0] at g5368; cases g5368) | (rw [a1] at g5368; cases g5368) | (rw [a2] at g5368; cases g5368) | (rw [a3] at g5368; cases g5368) | skip
        refine zS2 (f := fun x y => .int (x &&& y)) vr_120_33 rfl rfl (fun x5369 y5369 e5369 f5369 => ?_)
        cases e5369
        cases f5369
        refine zSaload (m := 1) (k := 0) vr_120_34 rfl rfl rfl ?_
        refine zLget vr_120_35 rfl (fun p5371 w5371 e5371 t5371 g5371 => ?_)
        cases e5371
        first | (rw [a0] at g5371; cases g5371) | (rw [a1] at g5371; cases g5371) | (rw [a2] at g5371; cases g5371) | (rw [a3] at g5371; cases g5371) | skip
        refine zSb2 (f := fun x y => decide (¬ x = y)) (off := 37) (t := 75) vr_120_38 rfl rfl rfl (fun x5372 y5372 e5372 f5372 q5372 => ?_) (fun x5372 y5372 e5372 f5372 q5372 => ?_)
        · cases e5372
          cases f5372
          have c5372 := of_decide_eq_true q5372
          refine zSp0 (pc' := 76) (st' := .int (0) :: _) vr_120_75 rfl rfl ?_
          refine zLiret vr_120_76 rfl (fun x5374 e5374 => ?_)
          cases e5374
          exact ⟨rfl, congrArg (fun z : Int32 => Sum.inl (some (Value.int z))) (if_neg (fun z : okC F (iv h D 3) (iv h D 2) (iv h D 4) (iv h D 5) => c5372 (by rw [← iv_of g5366]; exact z.2.2.1))).symm⟩
        · cases e5372
          cases f5372
          have c5372 := ndc q5372
          refine zSaload (m := 1) (k := 1) vr_120_41 rfl rfl rfl ?_
          refine zLget vr_120_42 rfl (fun p5376 w5376 e5376 t5376 g5376 => ?_)
          cases e5376
          first | (rw [a0] at g5376; cases g5376) | (rw [a1] at g5376; cases g5376) | (rw [a2] at g5376; cases g5376) | (rw [a3] at g5376; cases g5376) | skip
          refine zSaload (m := 1) (k := 0) vr_120_45 rfl rfl rfl ?_
          refine zLget vr_120_46 rfl (fun p5378 w5378 e5378 t5378 g5378 => ?_)
          cases e5378
          first | (rw [a0] at g5378; cases g5378) | (rw [a1] at g5378; cases g5378) | (rw [a2] at g5378; cases g5378) | (rw [a3] at g5378; cases g5378) | skip
          refine zS2 (f := fun x y => .int (x &&& y)) vr_120_49 rfl rfl (fun x5379 y5379 e5379 f5379 => ?_)
          cases e5379
          cases f5379
          refine zSb1 (f := fun x => decide (¬ x = 0)) (off := 25) (t := 75) vr_120_50 rfl rfl rfl (fun x5380 e5380 q5380 => ?_) (fun x5380 e5380 q5380 => ?_)
          · cases e5380
            have c5380 := of_decide_eq_true q5380
            refine zSp0 (pc' := 76) (st' := .int (0) :: _) vr_120_75 rfl rfl ?_
            refine zLiret vr_120_76 rfl (fun x5382 e5382 => ?_)
            cases e5382
            exact ⟨rfl, congrArg (fun z : Int32 => Sum.inl (some (Value.int z))) (if_neg (fun z : okC F (iv h D 3) (iv h D 2) (iv h D 4) (iv h D 5) => c5380 (by rw [← iv_of g5376]; exact z.2.2.2.1))).symm⟩
          · cases e5380
            have c5380 := ndc q5380
            refine zSaload (m := 1) (k := 1) vr_120_53 rfl rfl rfl ?_
            refine zLget vr_120_54 rfl (fun p5384 w5384 e5384 t5384 g5384 => ?_)
            cases e5384
            first | (rw [a0] at g5384; cases g5384) | (rw [a1] at g5384; cases g5384) | (rw [a2] at g5384; cases g5384) | (rw [a3] at g5384; cases g5384) | skip
            obtain ⟨rk5, hrk5⟩ := hci 5 (by omega)
            have e5 := g5384
            rw [hrk5] at e5
            cases e5
            refine zSaload (m := 1) (k := 0) vr_120_57 rfl rfl rfl ?_
            refine zScall vr_120_58 rfl rfl rfl (fun m5386 _ => C_mls _ _ _ _ az) (fun v5386 h5386 u5386 q5386 => ?_) (fun E5386 h5386 u5386 q5386 => ?_)
            · obtain ⟨eh5386, z5386⟩ := q5386
              replace eh5386 := eh5386.symm
              subst eh5386
              cases z5386
              show zL zrx zi _ 120 61 [(0, _), (1, _)] [_, _] _ _ _
              refine zSaload (m := 1) (k := 0) vr_120_61 rfl rfl rfl ?_
              refine zScall vr_120_62 rfl rfl rfl (fun m5388 _ => C_mms _ _ _ _ az) (fun v5388 h5388 u5388 q5388 => ?_) (fun E5388 h5388 u5388 q5388 => ?_)
              · obtain ⟨eh5388, z5388⟩ := q5388
                replace eh5388 := eh5388.symm
                subst eh5388
                cases z5388
                show zL zrx zi _ 120 65 [(0, _), (1, _)] [_, _, _] _ _ _
                refine zScall vr_120_65 rfl rfl rfl (fun m5389 _ => C_in _ _ _ _ _ _) (fun v5389 h5389 u5389 q5389 => ?_) (fun E5389 h5389 u5389 q5389 => ?_)
                · obtain ⟨eh5389, z5389⟩ := q5389
                  replace eh5389 := eh5389.symm
                  subst eh5389
                  cases z5389
                  show zL zrx zi _ 120 68 [(0, _), (1, _)] [_] _ _ _
                  refine zSb1 (f := fun x => decide (x = 0)) (off := 7) (t := 75) vr_120_68 rfl rfl rfl (fun x5390 e5390 q5390 => ?_) (fun x5390 e5390 q5390 => ?_)
                  · cases e5390
                    have c5390 := of_decide_eq_true q5390
                    refine zSp0 (pc' := 76) (st' := .int (0) :: _) vr_120_75 rfl rfl ?_
                    refine zLiret vr_120_76 rfl (fun x5392 e5392 => ?_)
                    cases e5392
                    have f := inB_c c5390
                    exact ⟨rfl, congrArg (fun z : Int32 => Sum.inl (some (Value.int z))) (if_neg (fun z : okC F (iv h D 3) (iv h D 2) (iv h D 4) (iv h D 5) => f (by rw [← iv_of g5384, ← lm.2.1, ← lm.2.2.1]; exact ⟨z.2.2.2.2.1, z.2.2.2.2.2⟩))).symm⟩
                  · cases e5390
                    have c5390 := ndc q5390
                    refine zSp0 (pc' := 72) (st' := .int (1) :: _) vr_120_71 rfl rfl ?_
                    refine zSgo (t := 76) vr_120_72 rfl rfl ?_
                    refine zLiret vr_120_76 rfl (fun x5395 e5395 => ?_)
                    cases e5395
                    have f := inB_b c5390
                    rw [← lm.2.1, ← lm.2.2.1, ← iv_of g5384] at f
                    have f1 := hs_y c5362
                    rw [← iv_of g5360] at f1
                    have f2 := Decidable.not_not.mp c5372
                    rw [← iv_of g5366] at f2
                    have f3 := Decidable.not_not.mp c5380
                    rw [← iv_of g5376] at f3
                    have f0 := Decidable.not_not.mp c5354
                    rw [← iv_of g5351] at f0
                    exact ⟨rfl, congrArg (fun z : Int32 => Sum.inl (some (Value.int z))) (if_pos (show okC F (iv h D 3) (iv h D 2) (iv h D 4) (iv h D 5) from ⟨f0, f1, f2, f3, f.1, f.2⟩)).symm⟩
                · obtain ⟨-, z⟩ := q5389
                  cases z
              · obtain ⟨-, z⟩ := q5388
                cases z
            · obtain ⟨-, z⟩ := q5386
              cases z
    · obtain ⟨-, z⟩ := q5361
      cases z
theorem C_and (n : Nat) (x y : Int32) (h : List zC) (u : Nat) : zL zrx zi n 137 0 [(0, .int x), (1, .int y)] [] h u (fun o h2 _ => h2 = h ∧ o = .inl (some (.int (andT x y)))) := by
  refine zSiload (m := 1) (k := 0) vr_137_0 rfl rfl rfl (fun x5396 e5396 => ?_)
  cases e5396
  refine zSp0 (pc' := 3) (st' := .int (-9) :: _) vr_137_1 rfl rfl ?_
  refine zSb2 (f := fun x y => decide (x = y)) (off := 8) (t := 11) vr_137_3 rfl rfl rfl (fun x5398 y5398 e5398 f5398 q5398 => ?_) (fun x5398 y5398 e5398 f5398 q5398 => ?_)
  · cases e5398
    cases f5398
    have c5398 := of_decide_eq_true q5398
    refine zSiload (m := 1) (k := 1) vr_137_11 rfl rfl rfl (fun x5399 e5399 => ?_)
    cases e5399
    refine zSgo (t := 17) vr_137_12 rfl rfl ?_
    refine zLiret vr_137_17 rfl (fun x5401 e5401 => ?_)
    cases e5401
    refine ⟨rfl, congrArg (fun z : Int32 => Sum.inl (some (Value.int z))) ?_⟩
    unfold andT
    rw [if_pos (Or.inl c5398)]
  · cases e5398
    cases f5398
    have c5398 := ndc q5398
    refine zSiload (m := 1) (k := 0) vr_137_6 rfl rfl rfl (fun x5402 e5402 => ?_)
    cases e5402
    refine zSiload (m := 1) (k := 1) vr_137_7 rfl rfl rfl (fun x5403 e5403 => ?_)
    cases e5403
    refine zSb2 (f := fun x y => decide (¬ x = y)) (off := 7) (t := 15) vr_137_8 rfl rfl rfl (fun x5404 y5404 e5404 f5404 q5404 => ?_) (fun x5404 y5404 e5404 f5404 q5404 => ?_)
    · cases e5404
      cases f5404
      have c5404 := of_decide_eq_true q5404
      refine zSp0 (pc' := 17) (st' := .int (-2) :: _) vr_137_15 rfl rfl ?_
      refine zLiret vr_137_17 rfl (fun x5406 e5406 => ?_)
      cases e5406
      refine ⟨rfl, congrArg (fun z : Int32 => Sum.inl (some (Value.int z))) ?_⟩
      unfold andT
      rw [if_neg (fun z => z.elim c5398 c5404)]
    · cases e5404
      cases f5404
      have c5404 := ndc q5404
      refine zSiload (m := 1) (k := 1) vr_137_11 rfl rfl rfl (fun x5407 e5407 => ?_)
      cases e5407
      refine zSgo (t := 17) vr_137_12 rfl rfl ?_
      refine zLiret vr_137_17 rfl (fun x5409 e5409 => ?_)
      cases e5409
      refine ⟨rfl, congrArg (fun z : Int32 => Sum.inl (some (Value.int z))) ?_⟩
      unfold andT
      rw [if_pos (Or.inr (Decidable.not_not.mp c5404))]
theorem C_cuQ (n : Nat) (par : Int32) (D : Nat) (h : List zC) (u : Nat) {cr : Int32} {rl : Nat} (hS : Stc h) (hrs : gF h 223 2 = some (.int cr)) (hrl : gF h 223 1 = some (.ref rl)) (r0 : 0 ≤ cr.toInt) (r40 : cr.toInt ≤ 40) (hrq : ∀ k, k < cr.toNatClampNeg → ∃ x : Nat, gF h rl k = some (.ref x) ∧ RI h x ∧ ∃ a b c : Int32, gF h x 3 = some (.int a) ∧ gF h x 4 = some (.int b) ∧ gF h x 6 = some (.int c) ∧ rI 0 63 a ∧ rI 0 63 b) (hci : CI h D) : zL zrx zi n 135 0 [(0, .ref 213), (1, .int par), (2, .ref D)] [] h u (fun o h2 _ => h2 = h ∧ o = .inl (some (.int (cuQ h rl cr par D)))) := by
  exact C_custom n par D h u hS hrs hrl r0 r40 hrq hci
theorem C_mbt (n : Nat) (D : Nat) (h : List zC) (u : Nat) {cr : Int32} {rl : Nat} (hS : Stc h) (hrs : gF h 223 2 = some (.int cr)) (hrl : gF h 223 1 = some (.ref rl)) (r0 : 0 ≤ cr.toInt) (r40 : cr.toInt ≤ 40) (hrq : ∀ k, k < cr.toNatClampNeg → ∃ x : Nat, gF h rl k = some (.ref x) ∧ RI h x ∧ ∃ a b c : Int32, gF h x 3 = some (.int a) ∧ gF h x 4 = some (.int b) ∧ gF h x 6 = some (.int c) ∧ rI 0 63 a ∧ rI 0 63 b) (hci : CI h D) : zL zrx zi n 136 0 [(0, .ref 213), (1, .ref D)] [] h u (fun o h2 _ => h2 = h ∧ o = .inl (some (.int (tieM h rl cr D)))) := by
  refine zSaload (m := 1) (k := 0) vr_136_0 rfl rfl rfl ?_
  refine zSaload (m := 1) (k := 1) vr_136_1 rfl rfl rfl ?_
  refine zLget vr_136_2 rfl (fun p5412 w5412 e5412 t5412 g5412 => ?_)
  cases e5412
  first | (rw [(st_213_6 hS)] at g5412; cases g5412) | (rw [(hci.at (j := 0) (by omega))] at g5412; cases g5412) | (rw [(hci.at (j := 1) (by omega))] at g5412; cases g5412) | skip
  refine zSaload (m := 1) (k := 1) vr_136_5 rfl rfl rfl ?_
  refine zScall vr_136_6 rfl rfl rfl (fun m5414 _ => C_cuQ _ _ _ _ _ hS hrs hrl r0 r40 hrq hci) (fun v5414 h5414 u5414 q5414 => ?_) (fun E5414 h5414 u5414 q5414 => ?_)
  · obtain ⟨eh5414, z5414⟩ := q5414
    replace eh5414 := eh5414.symm
    subst eh5414
    cases z5414
    show zL zrx zi _ 136 9 [(0, _), (1, _)] [_] _ _ _
    refine zSistore (m := 1) (k := 2) vr_136_9 rfl rfl (fun x5415 e5415 => ?_)
    cases e5415
    show zL zrx zi _ 136 10 [(2, _), (0, _), (1, _)] [] _ _ _
    refine zSaload (m := 1) (k := 0) vr_136_10 rfl rfl rfl ?_
    refine zLget vr_136_11 rfl (fun p5417 w5417 e5417 t5417 g5417 => ?_)
    cases e5417
    first | (rw [(st_213_6 hS)] at g5417; cases g5417) | (rw [(hci.at (j := 0) (by omega))] at g5417; cases g5417) | (rw [(hci.at (j := 1) (by omega))] at g5417; cases g5417) | skip
    refine zSaload (m := 1) (k := 1) vr_136_14 rfl rfl rfl ?_
    refine zLget vr_136_15 rfl (fun p5419 w5419 e5419 t5419 g5419 => ?_)
    cases e5419
    first | (rw [(st_213_6 hS)] at g5419; cases g5419) | (rw [(hci.at (j := 0) (by omega))] at g5419; cases g5419) | (rw [(hci.at (j := 1) (by omega))] at g5419; cases g5419) | skip
    refine zLiald vr_136_18 rfl (fun p5420 x5420 w5420 e5420 f5420 c5420 t5420 g5420 => ?_)
    cases e5420
    cases f5420
    first | (rw [(st_213_6 hS)] at g5420; cases g5420) | (rw [(hci.at (j := 0) (by omega))] at g5420; cases g5420) | (rw [(hci.at (j := 1) (by omega))] at g5420; cases g5420) | skip
    refine zSb1 (f := fun x => decide (¬ x = 0)) (off := 5) (t := 24) vr_136_19 rfl rfl rfl (fun x5421 e5421 q5421 => ?_) (fun x5421 e5421 q5421 => ?_)
    · cases e5421
      have c5421 := of_decide_eq_true q5421
      have et : iv h 222 (iv h D 3).toNatClampNeg = _ := (congrArg (fun z : Int32 => iv h 222 z.toNatClampNeg) (iv_of g5419)).trans (iv_of g5420)
      refine zSaload (m := 1) (k := 0) vr_136_24 rfl rfl rfl ?_
      refine zSaload (m := 1) (k := 1) vr_136_25 rfl rfl rfl ?_
      refine zLget vr_136_26 rfl (fun p5424 w5424 e5424 t5424 g5424 => ?_)
      cases e5424
      first | (rw [(st_213_6 hS)] at g5424; cases g5424) | (rw [(hci.at (j := 0) (by omega))] at g5424; cases g5424) | (rw [(hci.at (j := 1) (by omega))] at g5424; cases g5424) | skip
      refine zSaload (m := 1) (k := 1) vr_136_29 rfl rfl rfl ?_
      refine zScall vr_136_30 rfl rfl rfl (fun m5426 _ => C_cuQ _ _ _ _ _ hS hrs hrl r0 r40 hrq hci) (fun v5426 h5426 u5426 q5426 => ?_) (fun E5426 h5426 u5426 q5426 => ?_)
      · obtain ⟨eh5426, z5426⟩ := q5426
        replace eh5426 := eh5426.symm
        subst eh5426
        cases z5426
        show zL zrx zi _ 136 33 [(2, _), (0, _), (1, _)] [_] _ _ _
        refine zSistore (m := 1) (k := 3) vr_136_33 rfl rfl (fun x5427 e5427 => ?_)
        cases e5427
        show zL zrx zi _ 136 34 [(3, _), (2, _), (0, _), (1, _)] [] _ _ _
        refine zSaload (m := 1) (k := 0) vr_136_34 rfl rfl rfl ?_
        refine zLget vr_136_35 rfl (fun p5429 w5429 e5429 t5429 g5429 => ?_)
        cases e5429
        first | (rw [(st_213_6 hS)] at g5429; cases g5429) | (rw [(hci.at (j := 0) (by omega))] at g5429; cases g5429) | (rw [(hci.at (j := 1) (by omega))] at g5429; cases g5429) | skip
        refine zSaload (m := 1) (k := 1) vr_136_38 rfl rfl rfl ?_
        refine zLget vr_136_39 rfl (fun p5431 w5431 e5431 t5431 g5431 => ?_)
        cases e5431
        first | (rw [(st_213_6 hS)] at g5431; cases g5431) | (rw [(hci.at (j := 0) (by omega))] at g5431; cases g5431) | (rw [(hci.at (j := 1) (by omega))] at g5431; cases g5431) | skip
        refine zLiald vr_136_42 rfl (fun p5432 x5432 w5432 e5432 f5432 c5432 t5432 g5432 => ?_)
        cases e5432
        cases f5432
        first | (rw [(st_213_6 hS)] at g5432; cases g5432) | (rw [(hci.at (j := 0) (by omega))] at g5432; cases g5432) | (rw [(hci.at (j := 1) (by omega))] at g5432; cases g5432) | skip
        refine zSp0 (pc' := 44) (st' := .int (1) :: _) vr_136_43 rfl rfl ?_
        refine zSb2 (f := fun x y => decide (¬ x = y)) (off := 5) (t := 49) vr_136_44 rfl rfl rfl (fun x5434 y5434 e5434 f5434 q5434 => ?_) (fun x5434 y5434 e5434 f5434 q5434 => ?_)
        · cases e5434
          cases f5434
          have c5434 := of_decide_eq_true q5434
          have eu : iv h 222 (iv h D 3).toNatClampNeg = _ := (congrArg (fun z : Int32 => iv h 222 z.toNatClampNeg) (iv_of g5431)).trans (iv_of g5432)
          refine zSiload (m := 1) (k := 2) vr_136_49 rfl rfl rfl (fun x5435 e5435 => ?_)
          cases e5435
          refine zSb1 (f := fun x => decide (x < 0)) (off := 13) (t := 63) vr_136_50 rfl rfl rfl (fun x5436 e5436 q5436 => ?_) (fun x5436 e5436 q5436 => ?_)
          · cases e5436
            have c5436 := of_decide_eq_true q5436
            refine zSiload (m := 1) (k := 2) vr_136_63 rfl rfl rfl (fun x5437 e5437 => ?_)
            cases e5437
            refine zSb1 (f := fun x => decide (0 ≤ x)) (off := 7) (t := 71) vr_136_64 rfl rfl rfl (fun x5438 e5438 q5438 => ?_) (fun x5438 e5438 q5438 => ?_)
            · cases e5438
              have c5438 := of_decide_eq_true q5438
              refine zSiload (m := 1) (k := 2) vr_136_71 rfl rfl rfl (fun x5439 e5439 => ?_)
              cases e5439
              refine zSiload (m := 1) (k := 3) vr_136_72 rfl rfl rfl (fun x5440 e5440 => ?_)
              cases e5440
              refine zScall vr_136_73 rfl rfl rfl (fun m5441 _ => C_mxI _ _ _ _ _) (fun v5441 h5441 u5441 q5441 => ?_) (fun E5441 h5441 u5441 q5441 => ?_)
              · obtain ⟨eh5441, z5441⟩ := q5441
                subst eh5441
                cases z5441
                show zL zrx zi _ 136 76 [(3, _), (2, _), (0, _), (1, _)] [_] _ _ _
                refine zLiret vr_136_76 rfl (fun x5442 e5442 => ?_)
                cases e5442
                refine ⟨rfl, congrArg (fun z : Int32 => Sum.inl (some (Value.int z))) ?_⟩
                unfold tieM
                rw [et, if_neg c5421, ← et, eu, if_neg c5434]
                show _ = milT _ _
                unfold milT
                rw [if_neg (fun z => absurd c5436 (Int32.not_lt.mpr z.1)), if_pos (Or.inl c5438)]
                first | done | rfl
              · obtain ⟨-, z⟩ := q5441
                cases z
            · cases e5438
              have c5438 := ndc q5438
              refine zSiload (m := 1) (k := 3) vr_136_67 rfl rfl rfl (fun x5443 e5443 => ?_)
              cases e5443
              refine zSb1 (f := fun x => decide (x < 0)) (off := 9) (t := 77) vr_136_68 rfl rfl rfl (fun x5444 e5444 q5444 => ?_) (fun x5444 e5444 q5444 => ?_)
              · cases e5444
                have c5444 := of_decide_eq_true q5444
                refine zSiload (m := 1) (k := 2) vr_136_77 rfl rfl rfl (fun x5445 e5445 => ?_)
                cases e5445
                refine zSp0 (pc' := 80) (st' := .int (-2) :: _) vr_136_78 rfl rfl ?_
                refine zSb2 (f := fun x y => decide (x = y)) (off := 9) (t := 89) vr_136_80 rfl rfl rfl (fun x5447 y5447 e5447 f5447 q5447 => ?_) (fun x5447 y5447 e5447 f5447 q5447 => ?_)
                · cases e5447
                  cases f5447
                  have c5447 := of_decide_eq_true q5447
                  refine zSp0 (pc' := 91) (st' := .int (-2) :: _) vr_136_89 rfl rfl ?_
                  refine zSgo (t := 95) vr_136_91 rfl rfl ?_
                  refine zLiret vr_136_95 rfl (fun x5450 e5450 => ?_)
                  cases e5450
                  refine ⟨rfl, congrArg (fun z : Int32 => Sum.inl (some (Value.int z))) ?_⟩
                  unfold tieM
                  rw [et, if_neg c5421, ← et, eu, if_neg c5434]
                  show _ = milT _ _
                  unfold milT
                  rw [if_neg (fun z => absurd c5436 (Int32.not_lt.mpr z.1)), if_neg (fun z => z.elim c5438 (fun y => absurd c5444 (Int32.not_lt.mpr y))), if_pos (Or.inl c5447)]
                · cases e5447
                  cases f5447
                  have c5447 := ndc q5447
                  refine zSiload (m := 1) (k := 3) vr_136_83 rfl rfl rfl (fun x5451 e5451 => ?_)
                  cases e5451
                  refine zSp0 (pc' := 86) (st' := .int (-2) :: _) vr_136_84 rfl rfl ?_
                  refine zSb2 (f := fun x y => decide (¬ x = y)) (off := 8) (t := 94) vr_136_86 rfl rfl rfl (fun x5453 y5453 e5453 f5453 q5453 => ?_) (fun x5453 y5453 e5453 f5453 q5453 => ?_)
                  · cases e5453
                    cases f5453
                    have c5453 := of_decide_eq_true q5453
                    refine zSp0 (pc' := 95) (st' := .int (-1) :: _) vr_136_94 rfl rfl ?_
                    refine zLiret vr_136_95 rfl (fun x5455 e5455 => ?_)
                    cases e5455
                    refine ⟨rfl, congrArg (fun z : Int32 => Sum.inl (some (Value.int z))) ?_⟩
                    unfold tieM
                    rw [et, if_neg c5421, ← et, eu, if_neg c5434]
                    show _ = milT _ _
                    unfold milT
                    rw [if_neg (fun z => absurd c5436 (Int32.not_lt.mpr z.1)), if_neg (fun z => z.elim c5438 (fun y => absurd c5444 (Int32.not_lt.mpr y))), if_neg (fun z => z.elim c5447 c5453)]
                  · cases e5453
                    cases f5453
                    have c5453 := ndc q5453
                    refine zSp0 (pc' := 91) (st' := .int (-2) :: _) vr_136_89 rfl rfl ?_
                    refine zSgo (t := 95) vr_136_91 rfl rfl ?_
                    refine zLiret vr_136_95 rfl (fun x5458 e5458 => ?_)
                    cases e5458
                    refine ⟨rfl, congrArg (fun z : Int32 => Sum.inl (some (Value.int z))) ?_⟩
                    unfold tieM
                    rw [et, if_neg c5421, ← et, eu, if_neg c5434]
                    show _ = milT _ _
                    unfold milT
                    rw [if_neg (fun z => absurd c5436 (Int32.not_lt.mpr z.1)), if_neg (fun z => z.elim c5438 (fun y => absurd c5444 (Int32.not_lt.mpr y))), if_pos (Or.inr (Decidable.not_not.mp c5453))]
              · cases e5444
                have c5444 := ndc q5444
                refine zSiload (m := 1) (k := 2) vr_136_71 rfl rfl rfl (fun x5459 e5459 => ?_)
                cases e5459
                refine zSiload (m := 1) (k := 3) vr_136_72 rfl rfl rfl (fun x5460 e5460 => ?_)
                cases e5460
                refine zScall vr_136_73 rfl rfl rfl (fun m5461 _ => C_mxI _ _ _ _ _) (fun v5461 h5461 u5461 q5461 => ?_) (fun E5461 h5461 u5461 q5461 => ?_)
                · obtain ⟨eh5461, z5461⟩ := q5461
                  subst eh5461
                  cases z5461
                  show zL zrx zi _ 136 76 [(3, _), (2, _), (0, _), (1, _)] [_] _ _ _
                  refine zLiret vr_136_76 rfl (fun x5462 e5462 => ?_)
                  cases e5462
                  refine ⟨rfl, congrArg (fun z : Int32 => Sum.inl (some (Value.int z))) ?_⟩
                  unfold tieM
                  rw [et, if_neg c5421, ← et, eu, if_neg c5434]
                  show _ = milT _ _
                  unfold milT
                  rw [if_neg (fun z => absurd c5436 (Int32.not_lt.mpr z.1)), if_pos (Or.inr (Int32.not_lt.mp c5444))]
                  first | done | rfl
                · obtain ⟨-, z⟩ := q5461
                  cases z
          · cases e5436
            have c5436 := ndc q5436
            refine zSiload (m := 1) (k := 3) vr_136_53 rfl rfl rfl (fun x5463 e5463 => ?_)
            cases e5463
            refine zSb1 (f := fun x => decide (x < 0)) (off := 9) (t := 63) vr_136_54 rfl rfl rfl (fun x5464 e5464 q5464 => ?_) (fun x5464 e5464 q5464 => ?_)
            · cases e5464
              have c5464 := of_decide_eq_true q5464
              refine zSiload (m := 1) (k := 2) vr_136_63 rfl rfl rfl (fun x5465 e5465 => ?_)
              cases e5465
              refine zSb1 (f := fun x => decide (0 ≤ x)) (off := 7) (t := 71) vr_136_64 rfl rfl rfl (fun x5466 e5466 q5466 => ?_) (fun x5466 e5466 q5466 => ?_)
              · cases e5466
                have c5466 := of_decide_eq_true q5466
                refine zSiload (m := 1) (k := 2) vr_136_71 rfl rfl rfl (fun x5467 e5467 => ?_)
                cases e5467
                refine zSiload (m := 1) (k := 3) vr_136_72 rfl rfl rfl (fun x5468 e5468 => ?_)
                cases e5468
                refine zScall vr_136_73 rfl rfl rfl (fun m5469 _ => C_mxI _ _ _ _ _) (fun v5469 h5469 u5469 q5469 => ?_) (fun E5469 h5469 u5469 q5469 => ?_)
                · obtain ⟨eh5469, z5469⟩ := q5469
                  subst eh5469
                  cases z5469
                  show zL zrx zi _ 136 76 [(3, _), (2, _), (0, _), (1, _)] [_] _ _ _
                  refine zLiret vr_136_76 rfl (fun x5470 e5470 => ?_)
                  cases e5470
                  refine ⟨rfl, congrArg (fun z : Int32 => Sum.inl (some (Value.int z))) ?_⟩
                  unfold tieM
                  rw [et, if_neg c5421, ← et, eu, if_neg c5434]
                  show _ = milT _ _
                  unfold milT
                  rw [if_neg (fun z => absurd c5464 (Int32.not_lt.mpr z.2)), if_pos (Or.inl c5466)]
                  first | done | rfl
                · obtain ⟨-, z⟩ := q5469
                  cases z
              · cases e5466
                have c5466 := ndc q5466
                refine zSiload (m := 1) (k := 3) vr_136_67 rfl rfl rfl (fun x5471 e5471 => ?_)
                cases e5471
                refine zSb1 (f := fun x => decide (x < 0)) (off := 9) (t := 77) vr_136_68 rfl rfl rfl (fun x5472 e5472 q5472 => ?_) (fun x5472 e5472 q5472 => ?_)
                · cases e5472
                  have c5472 := of_decide_eq_true q5472
                  refine zSiload (m := 1) (k := 2) vr_136_77 rfl rfl rfl (fun x5473 e5473 => ?_)
                  cases e5473
                  refine zSp0 (pc' := 80) (st' := .int (-2) :: _) vr_136_78 rfl rfl ?_
                  refine zSb2 (f := fun x y => decide (x = y)) (off := 9) (t := 89) vr_136_80 rfl rfl rfl (fun x5475 y5475 e5475 f5475 q5475 => ?_) (fun x5475 y5475 e5475 f5475 q5475 => ?_)
                  · cases e5475
                    cases f5475
                    have c5475 := of_decide_eq_true q5475
                    refine zSp0 (pc' := 91) (st' := .int (-2) :: _) vr_136_89 rfl rfl ?_
                    refine zSgo (t := 95) vr_136_91 rfl rfl ?_
                    refine zLiret vr_136_95 rfl (fun x5478 e5478 => ?_)
                    cases e5478
                    refine ⟨rfl, congrArg (fun z : Int32 => Sum.inl (some (Value.int z))) ?_⟩
                    unfold tieM
                    rw [et, if_neg c5421, ← et, eu, if_neg c5434]
                    show _ = milT _ _
                    unfold milT
                    rw [if_neg (fun z => absurd c5464 (Int32.not_lt.mpr z.2)), if_neg (fun z => z.elim c5466 (fun y => absurd c5472 (Int32.not_lt.mpr y))), if_pos (Or.inl c5475)]
                  · cases e5475
                    cases f5475
                    have c5475 := ndc q5475
                    refine zSiload (m := 1) (k := 3) vr_136_83 rfl rfl rfl (fun x5479 e5479 => ?_)
                    cases e5479
                    refine zSp0 (pc' := 86) (st' := .int (-2) :: _) vr_136_84 rfl rfl ?_
                    refine zSb2 (f := fun x y => decide (¬ x = y)) (off := 8) (t := 94) vr_136_86 rfl rfl rfl (fun x5481 y5481 e5481 f5481 q5481 => ?_) (fun x5481 y5481 e5481 f5481 q5481 => ?_)
                    · cases e5481
                      cases f5481
                      have c5481 := of_decide_eq_true q5481
                      refine zSp0 (pc' := 95) (st' := .int (-1) :: _) vr_136_94 rfl rfl ?_
                      refine zLiret vr_136_95 rfl (fun x5483 e5483 => ?_)
                      cases e5483
                      refine ⟨rfl, congrArg (fun z : Int32 => Sum.inl (some (Value.int z))) ?_⟩
                      unfold tieM
                      rw [et, if_neg c5421, ← et, eu, if_neg c5434]
                      show _ = milT _ _
                      unfold milT
                      rw [if_neg (fun z => absurd c5464 (Int32.not_lt.mpr z.2)), if_neg (fun z => z.elim c5466 (fun y => absurd c5472 (Int32.not_lt.mpr y))), if_neg (fun z => z.elim c5475 c5481)]
                    · cases e5481
                      cases f5481
                      have c5481 := ndc q5481
                      refine zSp0 (pc' := 91) (st' := .int (-2) :: _) vr_136_89 rfl rfl ?_
                      refine zSgo (t := 95) vr_136_91 rfl rfl ?_
                      refine zLiret vr_136_95 rfl (fun x5486 e5486 => ?_)
                      cases e5486
                      refine ⟨rfl, congrArg (fun z : Int32 => Sum.inl (some (Value.int z))) ?_⟩
                      unfold tieM
                      rw [et, if_neg c5421, ← et, eu, if_neg c5434]
                      show _ = milT _ _
                      unfold milT
                      rw [if_neg (fun z => absurd c5464 (Int32.not_lt.mpr z.2)), if_neg (fun z => z.elim c5466 (fun y => absurd c5472 (Int32.not_lt.mpr y))), if_pos (Or.inr (Decidable.not_not.mp c5481))]
                · cases e5472
                  have c5472 := ndc q5472
                  refine zSiload (m := 1) (k := 2) vr_136_71 rfl rfl rfl (fun x5487 e5487 => ?_)
                  cases e5487
                  refine zSiload (m := 1) (k := 3) vr_136_72 rfl rfl rfl (fun x5488 e5488 => ?_)
                  cases e5488
                  refine zScall vr_136_73 rfl rfl rfl (fun m5489 _ => C_mxI _ _ _ _ _) (fun v5489 h5489 u5489 q5489 => ?_) (fun E5489 h5489 u5489 q5489 => ?_)
                  · obtain ⟨eh5489, z5489⟩ := q5489
                    subst eh5489
                    cases z5489
                    show zL zrx zi _ 136 76 [(3, _), (2, _), (0, _), (1, _)] [_] _ _ _
                    refine zLiret vr_136_76 rfl (fun x5490 e5490 => ?_)
                    cases e5490
                    refine ⟨rfl, congrArg (fun z : Int32 => Sum.inl (some (Value.int z))) ?_⟩
                    unfold tieM
                    rw [et, if_neg c5421, ← et, eu, if_neg c5434]
                    show _ = milT _ _
                    unfold milT
                    rw [if_neg (fun z => absurd c5464 (Int32.not_lt.mpr z.2)), if_pos (Or.inr (Int32.not_lt.mp c5472))]
                    first | done | rfl
                  · obtain ⟨-, z⟩ := q5489
                    cases z
            · cases e5464
              have c5464 := ndc q5464
              refine zSiload (m := 1) (k := 2) vr_136_57 rfl rfl rfl (fun x5491 e5491 => ?_)
              cases e5491
              refine zSiload (m := 1) (k := 3) vr_136_58 rfl rfl rfl (fun x5492 e5492 => ?_)
              cases e5492
              refine zScall vr_136_59 rfl rfl rfl (fun m5493 _ => C_mnI _ _ _ _ _) (fun v5493 h5493 u5493 q5493 => ?_) (fun E5493 h5493 u5493 q5493 => ?_)
              · obtain ⟨eh5493, z5493⟩ := q5493
                subst eh5493
                cases z5493
                show zL zrx zi _ 136 62 [(3, _), (2, _), (0, _), (1, _)] [_] _ _ _
                refine zLiret vr_136_62 rfl (fun x5494 e5494 => ?_)
                cases e5494
                refine ⟨rfl, congrArg (fun z : Int32 => Sum.inl (some (Value.int z))) ?_⟩
                unfold tieM
                rw [et, if_neg c5421, ← et, eu, if_neg c5434]
                show _ = milT _ _
                unfold milT
                rw [if_pos ⟨Int32.not_lt.mp c5436, Int32.not_lt.mp c5464⟩]
                first | done | rfl
              · obtain ⟨-, z⟩ := q5493
                cases z
        · cases e5434
          cases f5434
          have c5434 := ndc q5434
          have eu : iv h 222 (iv h D 3).toNatClampNeg = _ := (congrArg (fun z : Int32 => iv h 222 z.toNatClampNeg) (iv_of g5431)).trans (iv_of g5432)
          refine zSiload (m := 1) (k := 3) vr_136_47 rfl rfl rfl (fun x5495 e5495 => ?_)
          cases e5495
          refine zLiret vr_136_48 rfl (fun x5496 e5496 => ?_)
          cases e5496
          refine ⟨rfl, congrArg (fun z : Int32 => Sum.inl (some (Value.int z))) ?_⟩
          unfold tieM
          rw [et, if_neg c5421, ← et, eu, if_pos (Decidable.not_not.mp c5434)]
      · obtain ⟨-, z⟩ := q5426
        cases z
    · cases e5421
      have c5421 := ndc q5421
      have et : iv h 222 (iv h D 3).toNatClampNeg = _ := (congrArg (fun z : Int32 => iv h 222 z.toNatClampNeg) (iv_of g5419)).trans (iv_of g5420)
      refine zSiload (m := 1) (k := 2) vr_136_22 rfl rfl rfl (fun x5497 e5497 => ?_)
      cases e5497
      refine zLiret vr_136_23 rfl (fun x5498 e5498 => ?_)
      cases e5498
      refine ⟨rfl, congrArg (fun z : Int32 => Sum.inl (some (Value.int z))) ?_⟩
      unfold tieM
      rw [et, if_pos (Decidable.not_not.mp c5421)]
  · obtain ⟨-, z⟩ := q5414
    cases z
set_option maxRecDepth 20000 in
theorem C_mtl_loop {h : List zC} {el : Nat} {cnt : Int32} {cr : Int32} {rl : Nat} {Fk : Nat → Nat → Int32} {D : Nat} {dd wo : Int32} (hL : gF h 225 1 = some (.ref el)) (hs : gF h 225 2 = some (.int cnt)) (h0 : 0 ≤ cnt.toInt) (h24 : cnt.toInt ≤ 24) (hA : aZs h el cnt.toNatClampNeg Fk) (hS : Stc h) (hrs : gF h 223 2 = some (.int cr)) (hrl : gF h 223 1 = some (.ref rl)) (r0 : 0 ≤ cr.toInt) (r40 : cr.toInt ≤ 40) (hrq : ∀ k, k < cr.toNatClampNeg → ∃ x : Nat, gF h rl k = some (.ref x) ∧ RI h x ∧ ∃ a b c : Int32, gF h x 3 = some (.int a) ∧ gF h x 4 = some (.int b) ∧ gF h x 6 = some (.int c) ∧ rI 0 63 a ∧ rI 0 63 b) (hci : CI h D) (hO : ∀ k, k < cnt.toNatClampNeg → ¬ 0 ≤ Fk k 6 → ¬ Fk k 6 = -1 → (-2 - Fk k 6).toNatClampNeg < cnt.toNatClampNeg ∧ 0 ≤ (-2 - Fk k 6).toInt) {a d : Nat} {op : Nat → Bool} {pth : Int32} (ha : a < cnt.toNatClampNeg) (hop : ∀ j, j < cnt.toNatClampNeg → tb pth j = op j) (hd : cnt.toNatClampNeg + 1 ≤ cdT op cnt.toNatClampNeg + (d + 1)) (oa : op a = false) {N : Nat} (IH : ∀ m, m ≤ N → mTold 139 h el cnt.toNatClampNeg Fk D dd wo (tieM h rl cr D) m) : ∀ n, n ≤ N + 1 → ∀ (k : Nat) (t : Int32) (u : Nat), k ≤ cnt.toNatClampNeg → foldT (fun k => exM Fk k a && apM h el Fk D dd wo k) (fun k => tlM h el cnt.toNatClampNeg Fk D dd wo (tieM h rl cr D) d k (fun j => op j || decide (j = a))) k = t → zL zrx zi n 139 27 [(8, .int (Int32.ofNat k)), (7, .int t), (6, .int (pth ||| b1 a)), (0, .ref 213), (1, .int (Int32.ofNat a)), (2, .ref D), (3, .int dd), (4, .int wo), (5, .int pth)] [] h u (fun o h2 _ => h2 = h ∧ o = .inl (some (.int (tlM h el cnt.toNatClampNeg Fk D dd wo (tieM h rl cr D) (d + 1) a op))))
  | 0, _, _, _, _ => fun _ _ => trivial
  | n + 1, hn, k, t, u => fun hk hD => by
    have ck : cnt.toNatClampNeg = cnt.toInt.toNat := rfl
    have kk := (toNat_ofNat (m := k) (by omega))
    have ka := (toNat_ofNat (m := a) (by omega))
    have hop2 : ∀ j, j < cnt.toNatClampNeg → tb (pth ||| b1 a) j = (op j || decide (j = a)) := fun j hj => by
      rw [tb_or, hop j hj, tb_one a (by omega) j (by omega)]
    have hd2 : cnt.toNatClampNeg + 1 ≤ cdT (fun j => op j || decide (j = a)) cnt.toNatClampNeg + d := by
      rw [cdT_add oa, if_pos ha]
      omega
    refine zLp vr_139_27 rfl rfl ?_
    refine zSaload (m := 1) (k := 0) vr_139_29 rfl rfl rfl ?_
    refine zLget vr_139_30 rfl (fun p5500 w5500 e5500 t5500 g5500 => ?_)
    cases e5500
    first | (rw [(st_213_9 hS)] at g5500; cases g5500) | (rw [ax8] at g5500; cases g5500) | skip
    refine zScall vr_139_33 rfl rfl rfl (fun m5501 _ => C_lsize _ _ _ _ hs) (fun v5501 h5501 u5501 q5501 => ?_) (fun E5501 h5501 u5501 q5501 => ?_)
    · obtain ⟨eh5501, z5501⟩ := q5501
      replace eh5501 := eh5501.symm
      subst eh5501
      cases z5501
      show zL zrx zi _ 139 38 [(8, _), (7, _), (6, _), (0, _), (1, _), (2, _), (3, _), (4, _), (5, _)] [_, _] _ _ _
      refine zSb2 (f := fun x y => decide (y ≤ x)) (off := 82) (t := 120) vr_139_38 rfl rfl rfl (fun x5502 y5502 e5502 f5502 q5502 => ?_) (fun x5502 y5502 e5502 f5502 q5502 => ?_)
      · cases e5502
        cases f5502
        have c5502 := of_decide_eq_true q5502
        refine zSiload (m := 2) (k := 7) vr_139_120 rfl rfl rfl (fun x5503 e5503 => ?_)
        cases e5503
        refine zSp0 (pc' := 124) (st' := .int (-9) :: _) vr_139_122 rfl rfl ?_
        refine zSb2 (f := fun x y => decide (x = y)) (off := 6) (t := 130) vr_139_124 rfl rfl rfl (fun x5505 y5505 e5505 f5505 q5505 => ?_) (fun x5505 y5505 e5505 f5505 q5505 => ?_)
        · cases e5505
          cases f5505
          have c5505 := of_decide_eq_true q5505
          obtain ⟨A, AS, AN, hqa, az, lm⟩ := hA a ha
          have ax7 : gF h A 7 = some (.int (Fk a 6)) := az.1 (7, 6) (by decide)
          have f9 : foldT (fun k => exM Fk k a && apM h el Fk D dd wo k) (fun k => tlM h el cnt.toNatClampNeg Fk D dd wo (tieM h rl cr D) d k (fun j => op j || decide (j = a))) cnt.toNatClampNeg = -9 := by
            have y := c5502
            rw [i32_le, kk.2] at y
            have e : k = cnt.toNatClampNeg := by omega
            have hD2 := hD
            rw [e] at hD2
            exact hD2.trans c5505
          refine zSaload (m := 1) (k := 0) vr_139_130 rfl rfl rfl ?_
          refine zLget vr_139_131 rfl (fun p5507 w5507 e5507 t5507 g5507 => ?_)
          cases e5507
          first | (rw [(st_213_9 hS)] at g5507; cases g5507) | (rw [ax7] at g5507; cases g5507) | skip
          refine zSiload (m := 1) (k := 1) vr_139_134 rfl rfl rfl (fun x5508 e5508 => ?_)
          cases e5508
          refine zScall vr_139_135 rfl rfl rfl (fun m5509 _ => C_get _ _ _ _ _ hL hs) (fun v5509 h5509 u5509 q5509 => ?_) (fun E5509 h5509 u5509 q5509 => ?_)
          · obtain ⟨eh5509, y5509, w5509, z5509, k5509⟩ := q5509
            replace eh5509 := eh5509.symm
            subst eh5509
            cases z5509
            show zL zrx zi _ 139 140 [(8, _), (7, _), (6, _), (0, _), (1, _), (2, _), (3, _), (4, _), (5, _)] [_] _ _ _
            have e1 := k5509
            rw [ka.1, hqa] at e1
            cases e1
            refine zLcst vr_139_140 rfl (fun p5510 e5510 => ?_)
            cases e5510
            refine zLget vr_139_143 rfl (fun p5511 w5511 e5511 t5511 g5511 => ?_)
            cases e5511
            first | (rw [(st_213_9 hS)] at g5511; cases g5511) | (rw [ax7] at g5511; cases g5511) | skip
            refine zSistore (m := 2) (k := 8) vr_139_146 rfl rfl (fun x5512 e5512 => ?_)
            cases e5512
            show zL zrx zi _ 139 148 [(8, _), (7, _), (6, _), (0, _), (1, _), (2, _), (3, _), (4, _), (5, _)] [] _ _ _
            refine zSiload (m := 2) (k := 8) vr_139_148 rfl rfl rfl (fun x5513 e5513 => ?_)
            cases e5513
            refine zSb1 (f := fun x => decide (x < 0)) (off := 6) (t := 156) vr_139_150 rfl rfl rfl (fun x5514 e5514 q5514 => ?_) (fun x5514 e5514 q5514 => ?_)
            · cases e5514
              have c5514 := of_decide_eq_true q5514
              refine zSiload (m := 2) (k := 8) vr_139_156 rfl rfl rfl (fun x5515 e5515 => ?_)
              cases e5515
              refine zSp0 (pc' := 159) (st' := .int (-1) :: _) vr_139_158 rfl rfl ?_
              refine zSb2 (f := fun x y => decide (¬ x = y)) (off := 9) (t := 168) vr_139_159 rfl rfl rfl (fun x5517 y5517 e5517 f5517 q5517 => ?_) (fun x5517 y5517 e5517 f5517 q5517 => ?_)
              · cases e5517
                cases f5517
                have c5517 := of_decide_eq_true q5517
                obtain ⟨ng, hng⟩ : ∃ y : Int32, y = (-2 : Int32) - Fk a 6 := ⟨_, rfl⟩
                obtain ⟨b2, b3⟩ := hO a ha (Int32.not_le.mpr c5514) c5517
                rw [← hng] at b2 b3
                have eb : ng = Int32.ofNat ng.toNatClampNeg := ofn_nat b3
                have kb := (toNat_ofNat (m := ng.toNatClampNeg) (by omega))
                obtain ⟨B, BS, BN, hqb, -, -⟩ := hA _ b2
                have rB : rf h el ng.toNatClampNeg = B := rf_of hqb
                refine zSaload (m := 1) (k := 0) vr_139_168 rfl rfl rfl ?_
                refine zSp0 (pc' := 171) (st' := .int (-2) :: _) vr_139_169 rfl rfl ?_
                refine zSiload (m := 2) (k := 8) vr_139_171 rfl rfl rfl (fun x5520 e5520 => ?_)
                cases e5520
                refine zS2 (f := fun x y => .int (x - y)) vr_139_173 rfl rfl (fun x5521 y5521 e5521 f5521 => ?_)
                cases e5521
                cases f5521
                first | rw [← hng, eb] | (dsimp only; rw [← hng, eb])
                refine zSiload (m := 1) (k := 3) vr_139_174 rfl rfl rfl (fun x5522 e5522 => ?_)
                cases e5522
                refine zSiload (m := 2) (k := 4) vr_139_175 rfl rfl rfl (fun x5523 e5523 => ?_)
                cases e5523
                refine zScall vr_139_177 rfl rfl rfl (fun m5524 _ => C_mIF _ _ _ _ _ _ hS hL hs (by rw [kb.1]; exact hqb)) (fun v5524 h5524 u5524 q5524 => ?_) (fun E5524 h5524 u5524 q5524 => ?_)
                · obtain ⟨eh5524, z5524⟩ := q5524
                  replace eh5524 := eh5524.symm
                  subst eh5524
                  cases z5524
                  show zL zrx zi _ 139 180 [(8, _), (7, _), (6, _), (0, _), (1, _), (2, _), (3, _), (4, _), (5, _)] [_] _ _ _
                  refine zSb1 (f := fun x => decide (x = 0)) (off := 21) (t := 201) vr_139_180 rfl rfl rfl (fun x5525 e5525 q5525 => ?_) (fun x5525 e5525 q5525 => ?_)
                  · cases e5525
                    have c5525 := of_decide_eq_true q5525
                    refine zSp0 (pc' := 202) (st' := .int (-1) :: _) vr_139_201 rfl rfl ?_
                    refine zLiret vr_139_202 rfl (fun x5527 e5527 => ?_)
                    cases e5527
                    have nf : ¬ (¬ Int32.ofNat ng.toNatClampNeg = wo ∧ foA (iv h B 9) (iv h B 10) (iv h B 11) dd) := fun z => by
                      have y := c5525
                      rw [if_pos z] at y
                      exact absurd y (by decide)
                    have fo : foM h el dd wo ng.toNatClampNeg = false := by
                      unfold foM
                      rw [rB]
                      exact decide_eq_false nf
                    rw [hng] at fo
                    refine ⟨rfl, congrArg (fun z : Int32 => Sum.inl (some (Value.int z))) ?_⟩
                    conv => rhs; unfold tlM; unfold tlT
                    rw [if_neg (by rw [oa]; decide)]
                    rw [if_pos (show foldT (fun k => exM Fk k a && apM h el Fk D dd wo k) (fun k => tlT cnt.toNatClampNeg (exM Fk) (apM h el Fk D dd wo) (foM h el dd wo) (ocM Fk) (tieM h rl cr D) d k (fun j => op j || decide (j = a))) cnt.toNatClampNeg = -9 from f9)]
                    rw [if_neg (show ¬ 0 ≤ ocM Fk a from Int32.not_le.mpr c5514), if_neg (show ¬ ocM Fk a = -1 from c5517), if_neg (by rw [fo]; decide)]
                  · cases e5525
                    have c5525 := ndc q5525
                    refine zSaload (m := 1) (k := 0) vr_139_183 rfl rfl rfl ?_
                    refine zSp0 (pc' := 186) (st' := .int (-2) :: _) vr_139_184 rfl rfl ?_
                    refine zSiload (m := 2) (k := 8) vr_139_186 rfl rfl rfl (fun x5530 e5530 => ?_)
                    cases e5530
                    refine zS2 (f := fun x y => .int (x - y)) vr_139_188 rfl rfl (fun x5531 y5531 e5531 f5531 => ?_)
                    cases e5531
                    cases f5531
                    first | rw [← hng, eb] | (dsimp only; rw [← hng, eb])
                    refine zSaload (m := 1) (k := 2) vr_139_189 rfl rfl rfl ?_
                    refine zSiload (m := 1) (k := 3) vr_139_190 rfl rfl rfl (fun x5533 e5533 => ?_)
                    cases e5533
                    refine zSiload (m := 2) (k := 4) vr_139_191 rfl rfl rfl (fun x5534 e5534 => ?_)
                    cases e5534
                    refine zSiload (m := 2) (k := 6) vr_139_193 rfl rfl rfl (fun x5535 e5535 => ?_)
                    cases e5535
                    refine zScall vr_139_195 rfl rfl rfl (fun m5536 _ => IH _ (by omega) _ d (fun j => op j || decide (j = a)) _ _ b2 hop2 hd2) (fun v5536 h5536 u5536 q5536 => ?_) (fun E5536 h5536 u5536 q5536 => ?_)
                    · obtain ⟨eh5536, z5536⟩ := q5536
                      replace eh5536 := eh5536.symm
                      subst eh5536
                      cases z5536
                      show zL zrx zi _ 139 198 [(8, _), (7, _), (6, _), (0, _), (1, _), (2, _), (3, _), (4, _), (5, _)] [_] _ _ _
                      refine zSgo (t := 202) vr_139_198 rfl rfl ?_
                      refine zLiret vr_139_202 rfl (fun x5538 e5538 => ?_)
                      cases e5538
                      have yf : (¬ Int32.ofNat ng.toNatClampNeg = wo ∧ foA (iv h B 9) (iv h B 10) (iv h B 11) dd) := by
                        by_cases z : (¬ Int32.ofNat ng.toNatClampNeg = wo ∧ foA (iv h B 9) (iv h B 10) (iv h B 11) dd)
                        · exact z
                        · have y := c5525
                          rw [if_neg z] at y
                          exact absurd rfl y
                      have fo : foM h el dd wo ng.toNatClampNeg = true := by
                        unfold foM
                        rw [rB]
                        exact decide_eq_true yf
                      rw [hng] at fo
                      refine ⟨rfl, congrArg (fun z : Int32 => Sum.inl (some (Value.int z))) ?_⟩
                      conv => rhs; unfold tlM; unfold tlT
                      rw [if_neg (by rw [oa]; decide)]
                      rw [if_pos (show foldT (fun k => exM Fk k a && apM h el Fk D dd wo k) (fun k => tlT cnt.toNatClampNeg (exM Fk) (apM h el Fk D dd wo) (foM h el dd wo) (ocM Fk) (tieM h rl cr D) d k (fun j => op j || decide (j = a))) cnt.toNatClampNeg = -9 from f9)]
                      rw [if_neg (show ¬ 0 ≤ ocM Fk a from Int32.not_le.mpr c5514), if_neg (show ¬ ocM Fk a = -1 from c5517), if_pos fo, hng]
                      rfl
                    · obtain ⟨-, z⟩ := q5536
                      cases z
                · obtain ⟨-, z⟩ := q5524
                  cases z
              · cases e5517
                cases f5517
                have c5517 := ndc q5517
                refine zSaload (m := 1) (k := 0) vr_139_162 rfl rfl rfl ?_
                refine zSaload (m := 1) (k := 2) vr_139_163 rfl rfl rfl ?_
                refine zScall vr_139_164 rfl rfl rfl (fun m5541 _ => C_mbt _ _ _ _ hS hrs hrl r0 r40 hrq hci) (fun v5541 h5541 u5541 q5541 => ?_) (fun E5541 h5541 u5541 q5541 => ?_)
                · obtain ⟨eh5541, z5541⟩ := q5541
                  replace eh5541 := eh5541.symm
                  subst eh5541
                  cases z5541
                  show zL zrx zi _ 139 167 [(8, _), (7, _), (6, _), (0, _), (1, _), (2, _), (3, _), (4, _), (5, _)] [_] _ _ _
                  refine zLiret vr_139_167 rfl (fun x5542 e5542 => ?_)
                  cases e5542
                  refine ⟨rfl, congrArg (fun z : Int32 => Sum.inl (some (Value.int z))) ?_⟩
                  conv => rhs; unfold tlM; unfold tlT
                  rw [if_neg (by rw [oa]; decide)]
                  rw [if_pos (show foldT (fun k => exM Fk k a && apM h el Fk D dd wo k) (fun k => tlT cnt.toNatClampNeg (exM Fk) (apM h el Fk D dd wo) (foM h el dd wo) (ocM Fk) (tieM h rl cr D) d k (fun j => op j || decide (j = a))) cnt.toNatClampNeg = -9 from f9)]
                  rw [if_neg (show ¬ 0 ≤ ocM Fk a from Int32.not_le.mpr c5514), if_pos (show ocM Fk a = -1 from Decidable.not_not.mp c5517)]
                · obtain ⟨-, z⟩ := q5541
                  cases z
            · cases e5514
              have c5514 := ndc q5514
              refine zSiload (m := 2) (k := 8) vr_139_153 rfl rfl rfl (fun x5543 e5543 => ?_)
              cases e5543
              refine zLiret vr_139_155 rfl (fun x5544 e5544 => ?_)
              cases e5544
              refine ⟨rfl, congrArg (fun z : Int32 => Sum.inl (some (Value.int z))) ?_⟩
              conv => rhs; unfold tlM; unfold tlT
              rw [if_neg (by rw [oa]; decide)]
              rw [if_pos (show foldT (fun k => exM Fk k a && apM h el Fk D dd wo k) (fun k => tlT cnt.toNatClampNeg (exM Fk) (apM h el Fk D dd wo) (foM h el dd wo) (ocM Fk) (tieM h rl cr D) d k (fun j => op j || decide (j = a))) cnt.toNatClampNeg = -9 from f9)]
              rw [if_pos (show 0 ≤ ocM Fk a from Int32.not_lt.mp c5514)]
          · obtain ⟨-, -, w, z, -⟩ := q5509
            cases z
        · cases e5505
          cases f5505
          have c5505 := ndc q5505
          refine zSiload (m := 2) (k := 7) vr_139_127 rfl rfl rfl (fun x5545 e5545 => ?_)
          cases e5545
          refine zLiret vr_139_129 rfl (fun x5546 e5546 => ?_)
          cases e5546
          have y := c5502
          rw [i32_le, kk.2] at y
          have e : k = cnt.toNatClampNeg := by omega
          subst e
          refine ⟨rfl, congrArg (fun z : Int32 => Sum.inl (some (Value.int z))) ?_⟩
          conv => rhs; unfold tlM; unfold tlT
          rw [if_neg (by rw [oa]; decide)]
          have nf : ¬ foldT (fun k => exM Fk k a && apM h el Fk D dd wo k) (fun k => tlT cnt.toNatClampNeg (exM Fk) (apM h el Fk D dd wo) (foM h el dd wo) (ocM Fk) (tieM h rl cr D) d k (fun j => op j || decide (j = a))) cnt.toNatClampNeg = -9 := fun z => c5505 (hD.symm.trans z)
          rw [if_neg nf]
          exact hD.symm
      · cases e5502
        cases f5502
        have c5502 := ndc q5502
        have hlt : k < cnt.toNatClampNeg := by
          have y := c5502
          rw [i32_le, kk.2] at y
          omega
        obtain ⟨A, AS, AN, hq, az, lm⟩ := hA k hlt
        have rA : rf h el k = A := rf_of hq
        have ax8 : gF h A 8 = some (.int (Fk k 7)) := az.1 (8, 7) (by decide)
        have hq0 : gF h el (Int32.ofNat k).toNatClampNeg = some (.ref A) := by
          rw [kk.1]
          exact hq
        refine zSaload (m := 1) (k := 0) vr_139_41 rfl rfl rfl ?_
        refine zLget vr_139_42 rfl (fun p5548 w5548 e5548 t5548 g5548 => ?_)
        cases e5548
        first | (rw [(st_213_9 hS)] at g5548; cases g5548) | (rw [ax8] at g5548; cases g5548) | skip
        refine zSiload (m := 2) (k := 8) vr_139_45 rfl rfl rfl (fun x5549 e5549 => ?_)
        cases e5549
        refine zScall vr_139_47 rfl rfl rfl (fun m5550 _ => C_get _ _ _ _ _ hL hs) (fun v5550 h5550 u5550 q5550 => ?_) (fun E5550 h5550 u5550 q5550 => ?_)
        · obtain ⟨eh5550, y5550, w5550, z5550, k5550⟩ := q5550
          replace eh5550 := eh5550.symm
          subst eh5550
          cases z5550
          show zL zrx zi _ 139 52 [(8, _), (7, _), (6, _), (0, _), (1, _), (2, _), (3, _), (4, _), (5, _)] [_] _ _ _
          have e1 := k5550
          rw [kk.1, hq] at e1
          cases e1
          refine zLcst vr_139_52 rfl (fun p5551 e5551 => ?_)
          cases e5551
          refine zLget vr_139_55 rfl (fun p5552 w5552 e5552 t5552 g5552 => ?_)
          cases e5552
          first | (rw [(st_213_9 hS)] at g5552; cases g5552) | (rw [ax8] at g5552; cases g5552) | skip
          refine zSiload (m := 1) (k := 1) vr_139_58 rfl rfl rfl (fun x5553 e5553 => ?_)
          cases e5553
          refine zSb2 (f := fun x y => decide (¬ x = y)) (off := 55) (t := 114) vr_139_59 rfl rfl rfl (fun x5554 y5554 e5554 f5554 q5554 => ?_) (fun x5554 y5554 e5554 f5554 q5554 => ?_)
          · cases e5554
            cases f5554
            have c5554 := of_decide_eq_true q5554
            refine zSiinc vr_139_114 rfl rfl (fun x5555 e5555 => ?_)
            cases e5555
            show zL zrx zi _ 139 117 [(8, _), (7, _), (6, _), (0, _), (1, _), (2, _), (3, _), (4, _), (5, _)] [] _ _ _
            refine zSgo (t := 27) vr_139_117 rfl rfl ?_
            rw [ofNat_succ]
            have s : (exM Fk k a && apM h el Fk D dd wo k) = false := by
              rw [show exM Fk k a = false from decide_eq_false c5554]
              rfl
            refine zL_pm _ _ _ [(8, _), (7, _), (6, _), (0, _), (1, _), (2, _), (3, _), (4, _), (5, _)] _ _ _ _ _ ⟨(List.forall_mem_cons.mpr ⟨List.mem_cons_self, (List.forall_mem_cons.mpr ⟨(List.mem_cons_of_mem _ List.mem_cons_self), (List.forall_mem_cons.mpr ⟨(List.mem_cons_of_mem _ (List.mem_cons_of_mem _ List.mem_cons_self)), (List.forall_mem_cons.mpr ⟨(List.mem_cons_of_mem _ (List.mem_cons_of_mem _ (List.mem_cons_of_mem _ List.mem_cons_self))), (List.forall_mem_cons.mpr ⟨(List.mem_cons_of_mem _ (List.mem_cons_of_mem _ (List.mem_cons_of_mem _ (List.mem_cons_of_mem _ List.mem_cons_self)))), (List.forall_mem_cons.mpr ⟨(List.mem_cons_of_mem _ (List.mem_cons_of_mem _ (List.mem_cons_of_mem _ (List.mem_cons_of_mem _ (List.mem_cons_of_mem _ List.mem_cons_self))))), (List.forall_mem_cons.mpr ⟨(List.mem_cons_of_mem _ (List.mem_cons_of_mem _ (List.mem_cons_of_mem _ (List.mem_cons_of_mem _ (List.mem_cons_of_mem _ (List.mem_cons_of_mem _ List.mem_cons_self)))))), (List.forall_mem_cons.mpr ⟨(List.mem_cons_of_mem _ (List.mem_cons_of_mem _ (List.mem_cons_of_mem _ (List.mem_cons_of_mem _ (List.mem_cons_of_mem _ (List.mem_cons_of_mem _ (List.mem_cons_of_mem _ List.mem_cons_self))))))), (List.forall_mem_cons.mpr ⟨(List.mem_cons_of_mem _ (List.mem_cons_of_mem _ (List.mem_cons_of_mem _ (List.mem_cons_of_mem _ (List.mem_cons_of_mem _ (List.mem_cons_of_mem _ (List.mem_cons_of_mem _ (List.mem_cons_of_mem _ List.mem_cons_self)))))))), (fun _ h => absurd h List.not_mem_nil)⟩)⟩)⟩)⟩)⟩)⟩)⟩)⟩)⟩), show ([8, 7, 6, 0, 1, 2, 3, 4, 5] : List Nat).Nodup by decide⟩ (C_mtl_loop hL hs h0 h24 hA hS hrs hrl r0 r40 hrq hci hO ha hop hd oa IH n (by omega) (k + 1) _ _ (by omega) ?_)
            rw [foldT_n (S := (fun k => exM Fk k a && apM h el Fk D dd wo k)) s, hD]
          · cases e5554
            cases f5554
            have c5554 := ndc q5554
            refine zSaload (m := 1) (k := 0) vr_139_62 rfl rfl rfl ?_
            refine zSiload (m := 2) (k := 8) vr_139_63 rfl rfl rfl (fun x5558 e5558 => ?_)
            cases e5558
            refine zSiload (m := 1) (k := 3) vr_139_65 rfl rfl rfl (fun x5559 e5559 => ?_)
            cases e5559
            refine zSiload (m := 2) (k := 4) vr_139_66 rfl rfl rfl (fun x5560 e5560 => ?_)
            cases e5560
            refine zScall vr_139_68 rfl rfl rfl (fun m5561 _ => C_mIF _ _ _ _ _ _ hS hL hs hq0) (fun v5561 h5561 u5561 q5561 => ?_) (fun E5561 h5561 u5561 q5561 => ?_)
            · obtain ⟨eh5561, z5561⟩ := q5561
              replace eh5561 := eh5561.symm
              subst eh5561
              cases z5561
              show zL zrx zi _ 139 71 [(8, _), (7, _), (6, _), (0, _), (1, _), (2, _), (3, _), (4, _), (5, _)] [_] _ _ _
              refine zSb1 (f := fun x => decide (x = 0)) (off := 43) (t := 114) vr_139_71 rfl rfl rfl (fun x5562 e5562 q5562 => ?_) (fun x5562 e5562 q5562 => ?_)
              · cases e5562
                have c5562 := of_decide_eq_true q5562
                refine zSiinc vr_139_114 rfl rfl (fun x5563 e5563 => ?_)
                cases e5563
                show zL zrx zi _ 139 117 [(8, _), (7, _), (6, _), (0, _), (1, _), (2, _), (3, _), (4, _), (5, _)] [] _ _ _
                refine zSgo (t := 27) vr_139_117 rfl rfl ?_
                rw [ofNat_succ]
                have nf : ¬ (¬ Int32.ofNat k = wo ∧ foA (iv h A 9) (iv h A 10) (iv h A 11) dd) := fun z => by
                  have y := c5562
                  rw [if_pos z] at y
                  exact absurd y (by decide)
                have fo : foM h el dd wo k = false := by
                  unfold foM
                  rw [rA]
                  exact decide_eq_false nf
                have ap : apM h el Fk D dd wo k = false := by
                  unfold apM
                  rw [fo, Bool.false_and]
                have s : (exM Fk k a && apM h el Fk D dd wo k) = false := by
                  rw [ap, Bool.and_false]
                refine zL_pm _ _ _ [(8, _), (7, _), (6, _), (0, _), (1, _), (2, _), (3, _), (4, _), (5, _)] _ _ _ _ _ ⟨(List.forall_mem_cons.mpr ⟨List.mem_cons_self, (List.forall_mem_cons.mpr ⟨(List.mem_cons_of_mem _ List.mem_cons_self), (List.forall_mem_cons.mpr ⟨(List.mem_cons_of_mem _ (List.mem_cons_of_mem _ List.mem_cons_self)), (List.forall_mem_cons.mpr ⟨(List.mem_cons_of_mem _ (List.mem_cons_of_mem _ (List.mem_cons_of_mem _ List.mem_cons_self))), (List.forall_mem_cons.mpr ⟨(List.mem_cons_of_mem _ (List.mem_cons_of_mem _ (List.mem_cons_of_mem _ (List.mem_cons_of_mem _ List.mem_cons_self)))), (List.forall_mem_cons.mpr ⟨(List.mem_cons_of_mem _ (List.mem_cons_of_mem _ (List.mem_cons_of_mem _ (List.mem_cons_of_mem _ (List.mem_cons_of_mem _ List.mem_cons_self))))), (List.forall_mem_cons.mpr ⟨(List.mem_cons_of_mem _ (List.mem_cons_of_mem _ (List.mem_cons_of_mem _ (List.mem_cons_of_mem _ (List.mem_cons_of_mem _ (List.mem_cons_of_mem _ List.mem_cons_self)))))), (List.forall_mem_cons.mpr ⟨(List.mem_cons_of_mem _ (List.mem_cons_of_mem _ (List.mem_cons_of_mem _ (List.mem_cons_of_mem _ (List.mem_cons_of_mem _ (List.mem_cons_of_mem _ (List.mem_cons_of_mem _ List.mem_cons_self))))))), (List.forall_mem_cons.mpr ⟨(List.mem_cons_of_mem _ (List.mem_cons_of_mem _ (List.mem_cons_of_mem _ (List.mem_cons_of_mem _ (List.mem_cons_of_mem _ (List.mem_cons_of_mem _ (List.mem_cons_of_mem _ (List.mem_cons_of_mem _ List.mem_cons_self)))))))), (fun _ h => absurd h List.not_mem_nil)⟩)⟩)⟩)⟩)⟩)⟩)⟩)⟩)⟩), show ([8, 7, 6, 0, 1, 2, 3, 4, 5] : List Nat).Nodup by decide⟩ (C_mtl_loop hL hs h0 h24 hA hS hrs hrl r0 r40 hrq hci hO ha hop hd oa IH n (by omega) (k + 1) _ _ (by omega) ?_)
                rw [foldT_n (S := (fun k => exM Fk k a && apM h el Fk D dd wo k)) s, hD]
              · cases e5562
                have c5562 := ndc q5562
                refine zSaload (m := 1) (k := 0) vr_139_74 rfl rfl rfl ?_
                refine zLget vr_139_75 rfl (fun p5566 w5566 e5566 t5566 g5566 => ?_)
                cases e5566
                first | (rw [(st_213_9 hS)] at g5566; cases g5566) | (rw [ax8] at g5566; cases g5566) | skip
                refine zSiload (m := 2) (k := 8) vr_139_78 rfl rfl rfl (fun x5567 e5567 => ?_)
                cases e5567
                refine zScall vr_139_80 rfl rfl rfl (fun m5568 _ => C_get _ _ _ _ _ hL hs) (fun v5568 h5568 u5568 q5568 => ?_) (fun E5568 h5568 u5568 q5568 => ?_)
                · obtain ⟨eh5568, y5568, w5568, z5568, k5568⟩ := q5568
                  replace eh5568 := eh5568.symm
                  subst eh5568
                  cases z5568
                  show zL zrx zi _ 139 85 [(8, _), (7, _), (6, _), (0, _), (1, _), (2, _), (3, _), (4, _), (5, _)] [_] _ _ _
                  have e2 := k5568
                  rw [kk.1, hq] at e2
                  cases e2
                  refine zLcst vr_139_85 rfl (fun p5569 e5569 => ?_)
                  cases e5569
                  refine zSaload (m := 1) (k := 2) vr_139_88 rfl rfl rfl ?_
                  refine zScall vr_139_89 rfl rfl rfl (fun m5571 _ => C_mapp _ _ _ _ _ az lm hci) (fun v5571 h5571 u5571 q5571 => ?_) (fun E5571 h5571 u5571 q5571 => ?_)
                  · obtain ⟨eh5571, z5571⟩ := q5571
                    replace eh5571 := eh5571.symm
                    subst eh5571
                    cases z5571
                    show zL zrx zi _ 139 92 [(8, _), (7, _), (6, _), (0, _), (1, _), (2, _), (3, _), (4, _), (5, _)] [_] _ _ _
                    refine zSb1 (f := fun x => decide (x = 0)) (off := 22) (t := 114) vr_139_92 rfl rfl rfl (fun x5572 e5572 q5572 => ?_) (fun x5572 e5572 q5572 => ?_)
                    · cases e5572
                      have c5572 := of_decide_eq_true q5572
                      refine zSiinc vr_139_114 rfl rfl (fun x5573 e5573 => ?_)
                      cases e5573
                      show zL zrx zi _ 139 117 [(8, _), (7, _), (6, _), (0, _), (1, _), (2, _), (3, _), (4, _), (5, _)] [] _ _ _
                      refine zSgo (t := 27) vr_139_117 rfl rfl ?_
                      rw [ofNat_succ]
                      have nf : ¬ okC (Fk k) (iv h D 3) (iv h D 2) (iv h D 4) (iv h D 5) := fun z => by
                        have y := c5572
                        rw [if_pos z] at y
                        exact absurd y (by decide)
                      have ap : apM h el Fk D dd wo k = false := by
                        unfold apM
                        rw [decide_eq_false nf, Bool.and_false]
                      have s : (exM Fk k a && apM h el Fk D dd wo k) = false := by
                        rw [ap, Bool.and_false]
                      refine zL_pm _ _ _ [(8, _), (7, _), (6, _), (0, _), (1, _), (2, _), (3, _), (4, _), (5, _)] _ _ _ _ _ ⟨(List.forall_mem_cons.mpr ⟨List.mem_cons_self, (List.forall_mem_cons.mpr ⟨(List.mem_cons_of_mem _ List.mem_cons_self), (List.forall_mem_cons.mpr ⟨(List.mem_cons_of_mem _ (List.mem_cons_of_mem _ List.mem_cons_self)), (List.forall_mem_cons.mpr ⟨(List.mem_cons_of_mem _ (List.mem_cons_of_mem _ (List.mem_cons_of_mem _ List.mem_cons_self))), (List.forall_mem_cons.mpr ⟨(List.mem_cons_of_mem _ (List.mem_cons_of_mem _ (List.mem_cons_of_mem _ (List.mem_cons_of_mem _ List.mem_cons_self)))), (List.forall_mem_cons.mpr ⟨(List.mem_cons_of_mem _ (List.mem_cons_of_mem _ (List.mem_cons_of_mem _ (List.mem_cons_of_mem _ (List.mem_cons_of_mem _ List.mem_cons_self))))), (List.forall_mem_cons.mpr ⟨(List.mem_cons_of_mem _ (List.mem_cons_of_mem _ (List.mem_cons_of_mem _ (List.mem_cons_of_mem _ (List.mem_cons_of_mem _ (List.mem_cons_of_mem _ List.mem_cons_self)))))), (List.forall_mem_cons.mpr ⟨(List.mem_cons_of_mem _ (List.mem_cons_of_mem _ (List.mem_cons_of_mem _ (List.mem_cons_of_mem _ (List.mem_cons_of_mem _ (List.mem_cons_of_mem _ (List.mem_cons_of_mem _ List.mem_cons_self))))))), (List.forall_mem_cons.mpr ⟨(List.mem_cons_of_mem _ (List.mem_cons_of_mem _ (List.mem_cons_of_mem _ (List.mem_cons_of_mem _ (List.mem_cons_of_mem _ (List.mem_cons_of_mem _ (List.mem_cons_of_mem _ (List.mem_cons_of_mem _ List.mem_cons_self)))))))), (fun _ h => absurd h List.not_mem_nil)⟩)⟩)⟩)⟩)⟩)⟩)⟩)⟩)⟩), show ([8, 7, 6, 0, 1, 2, 3, 4, 5] : List Nat).Nodup by decide⟩ (C_mtl_loop hL hs h0 h24 hA hS hrs hrl r0 r40 hrq hci hO ha hop hd oa IH n (by omega) (k + 1) _ _ (by omega) ?_)
                      rw [foldT_n (S := (fun k => exM Fk k a && apM h el Fk D dd wo k)) s, hD]
                    · cases e5572
                      have c5572 := ndc q5572
                      refine zSiload (m := 2) (k := 7) vr_139_95 rfl rfl rfl (fun x5575 e5575 => ?_)
                      cases e5575
                      refine zSaload (m := 1) (k := 0) vr_139_97 rfl rfl rfl ?_
                      refine zSiload (m := 2) (k := 8) vr_139_98 rfl rfl rfl (fun x5577 e5577 => ?_)
                      cases e5577
                      refine zSaload (m := 1) (k := 2) vr_139_100 rfl rfl rfl ?_
                      refine zSiload (m := 1) (k := 3) vr_139_101 rfl rfl rfl (fun x5579 e5579 => ?_)
                      cases e5579
                      refine zSiload (m := 2) (k := 4) vr_139_102 rfl rfl rfl (fun x5580 e5580 => ?_)
                      cases e5580
                      refine zSiload (m := 2) (k := 6) vr_139_104 rfl rfl rfl (fun x5581 e5581 => ?_)
                      cases e5581
                      refine zScall vr_139_106 rfl rfl rfl (fun m5582 _ => IH _ (by omega) k d (fun j => op j || decide (j = a)) _ _ hlt hop2 hd2) (fun v5582 h5582 u5582 q5582 => ?_) (fun E5582 h5582 u5582 q5582 => ?_)
                      · obtain ⟨eh5582, z5582⟩ := q5582
                        replace eh5582 := eh5582.symm
                        subst eh5582
                        cases z5582
                        show zL zrx zi _ 139 109 [(8, _), (7, _), (6, _), (0, _), (1, _), (2, _), (3, _), (4, _), (5, _)] [_, _] _ _ _
                        refine zScall vr_139_109 rfl rfl rfl (fun m5583 _ => C_and _ _ _ _ _) (fun v5583 h5583 u5583 q5583 => ?_) (fun E5583 h5583 u5583 q5583 => ?_)
                        · obtain ⟨eh5583, z5583⟩ := q5583
                          replace eh5583 := eh5583.symm
                          subst eh5583
                          cases z5583
                          show zL zrx zi _ 139 112 [(8, _), (7, _), (6, _), (0, _), (1, _), (2, _), (3, _), (4, _), (5, _)] [_] _ _ _
                          refine zSistore (m := 2) (k := 7) vr_139_112 rfl rfl (fun x5584 e5584 => ?_)
                          cases e5584
                          show zL zrx zi _ 139 114 [(7, _), (8, _), (6, _), (0, _), (1, _), (2, _), (3, _), (4, _), (5, _)] [] _ _ _
                          refine zSiinc vr_139_114 rfl rfl (fun x5585 e5585 => ?_)
                          cases e5585
                          show zL zrx zi _ 139 117 [(8, _), (7, _), (6, _), (0, _), (1, _), (2, _), (3, _), (4, _), (5, _)] [] _ _ _
                          refine zSgo (t := 27) vr_139_117 rfl rfl ?_
                          rw [ofNat_succ]
                          have yf : (¬ Int32.ofNat k = wo ∧ foA (iv h A 9) (iv h A 10) (iv h A 11) dd) := by
                            by_cases z : (¬ Int32.ofNat k = wo ∧ foA (iv h A 9) (iv h A 10) (iv h A 11) dd)
                            · exact z
                            · have y := c5562
                              rw [if_neg z] at y
                              exact absurd rfl y
                          have fo : foM h el dd wo k = true := by
                            unfold foM
                            rw [rA]
                            exact decide_eq_true yf
                          have yo : okC (Fk k) (iv h D 3) (iv h D 2) (iv h D 4) (iv h D 5) := by
                            by_cases z : okC (Fk k) (iv h D 3) (iv h D 2) (iv h D 4) (iv h D 5)
                            · exact z
                            · have y := c5572
                              rw [if_neg z] at y
                              exact absurd rfl y
                          have ap : apM h el Fk D dd wo k = true := by
                            unfold apM
                            rw [fo, decide_eq_true yo]
                            rfl
                          have s : (exM Fk k a && apM h el Fk D dd wo k) = true := by
                            rw [ap, show exM Fk k a = true from decide_eq_true (Decidable.not_not.mp c5554)]
                            rfl
                          refine zL_pm _ _ _ [(8, _), (7, _), (6, _), (0, _), (1, _), (2, _), (3, _), (4, _), (5, _)] _ _ _ _ _ ⟨(List.forall_mem_cons.mpr ⟨List.mem_cons_self, (List.forall_mem_cons.mpr ⟨(List.mem_cons_of_mem _ List.mem_cons_self), (List.forall_mem_cons.mpr ⟨(List.mem_cons_of_mem _ (List.mem_cons_of_mem _ List.mem_cons_self)), (List.forall_mem_cons.mpr ⟨(List.mem_cons_of_mem _ (List.mem_cons_of_mem _ (List.mem_cons_of_mem _ List.mem_cons_self))), (List.forall_mem_cons.mpr ⟨(List.mem_cons_of_mem _ (List.mem_cons_of_mem _ (List.mem_cons_of_mem _ (List.mem_cons_of_mem _ List.mem_cons_self)))), (List.forall_mem_cons.mpr ⟨(List.mem_cons_of_mem _ (List.mem_cons_of_mem _ (List.mem_cons_of_mem _ (List.mem_cons_of_mem _ (List.mem_cons_of_mem _ List.mem_cons_self))))), (List.forall_mem_cons.mpr ⟨(List.mem_cons_of_mem _ (List.mem_cons_of_mem _ (List.mem_cons_of_mem _ (List.mem_cons_of_mem _ (List.mem_cons_of_mem _ (List.mem_cons_of_mem _ List.mem_cons_self)))))), (List.forall_mem_cons.mpr ⟨(List.mem_cons_of_mem _ (List.mem_cons_of_mem _ (List.mem_cons_of_mem _ (List.mem_cons_of_mem _ (List.mem_cons_of_mem _ (List.mem_cons_of_mem _ (List.mem_cons_of_mem _ List.mem_cons_self))))))), (List.forall_mem_cons.mpr ⟨(List.mem_cons_of_mem _ (List.mem_cons_of_mem _ (List.mem_cons_of_mem _ (List.mem_cons_of_mem _ (List.mem_cons_of_mem _ (List.mem_cons_of_mem _ (List.mem_cons_of_mem _ (List.mem_cons_of_mem _ List.mem_cons_self)))))))), (fun _ h => absurd h List.not_mem_nil)⟩)⟩)⟩)⟩)⟩)⟩)⟩)⟩)⟩), show ([8, 7, 6, 0, 1, 2, 3, 4, 5] : List Nat).Nodup by decide⟩ (C_mtl_loop hL hs h0 h24 hA hS hrs hrl r0 r40 hrq hci hO ha hop hd oa IH n (by omega) (k + 1) _ _ (by omega) ?_)
                          rw [foldT_y (S := (fun k => exM Fk k a && apM h el Fk D dd wo k)) s, hD]
                        · obtain ⟨-, z⟩ := q5583
                          cases z
                      · obtain ⟨-, z⟩ := q5582
                        cases z
                  · obtain ⟨-, z⟩ := q5571
                    cases z
                · obtain ⟨-, -, w, z, -⟩ := q5568
                  cases z
            · obtain ⟨-, z⟩ := q5561
              cases z
        · obtain ⟨-, -, w, z, -⟩ := q5550
          cases z
    · obtain ⟨-, z⟩ := q5501
      cases z
theorem C_mtl0 {h : List zC} {el : Nat} {cnt : Int32} {cr : Int32} {rl : Nat} {Fk : Nat → Nat → Int32} {D : Nat} {dd wo : Int32} (hL : gF h 225 1 = some (.ref el)) (hs : gF h 225 2 = some (.int cnt)) (h0 : 0 ≤ cnt.toInt) (h24 : cnt.toInt ≤ 24) (hA : aZs h el cnt.toNatClampNeg Fk) (hS : Stc h) (hrs : gF h 223 2 = some (.int cr)) (hrl : gF h 223 1 = some (.ref rl)) (r0 : 0 ≤ cr.toInt) (r40 : cr.toInt ≤ 40) (hrq : ∀ k, k < cr.toNatClampNeg → ∃ x : Nat, gF h rl k = some (.ref x) ∧ RI h x ∧ ∃ a b c : Int32, gF h x 3 = some (.int a) ∧ gF h x 4 = some (.int b) ∧ gF h x 6 = some (.int c) ∧ rI 0 63 a ∧ rI 0 63 b) (hci : CI h D) (hO : ∀ k, k < cnt.toNatClampNeg → ¬ 0 ≤ Fk k 6 → ¬ Fk k 6 = -1 → (-2 - Fk k 6).toNatClampNeg < cnt.toNatClampNeg ∧ 0 ≤ (-2 - Fk k 6).toInt) {N : Nat} (IH : ∀ m, m ≤ N → mTold 139 h el cnt.toNatClampNeg Fk D dd wo (tieM h rl cr D) m) : mTold 139 h el cnt.toNatClampNeg Fk D dd wo (tieM h rl cr D) (N + 1) := fun a d op pth u ha hop hd => by
  have ck : cnt.toNatClampNeg = cnt.toInt.toNat := rfl
  obtain ⟨d, rfl⟩ : ∃ e, d = e + 1 := by
    have := cdT_le op cnt.toNatClampNeg
    exact ⟨d - 1, by omega⟩
  refine zSiload (m := 2) (k := 5) vr_139_0 rfl rfl rfl (fun x5587 e5587 => ?_)
  cases e5587
  refine zSiload (m := 1) (k := 1) vr_139_2 rfl rfl rfl (fun x5588 e5588 => ?_)
  cases e5588
  refine zScall vr_139_3 rfl rfl rfl (fun m5589 _ => C_has _ _ _ _ _) (fun v5589 h5589 u5589 q5589 => ?_) (fun E5589 h5589 u5589 q5589 => ?_)
  · obtain ⟨eh5589, z5589⟩ := q5589
    replace eh5589 := eh5589.symm
    subst eh5589
    cases z5589
    show zL zrx zi _ 139 6 [(0, _), (1, _), (2, _), (3, _), (4, _), (5, _)] [_] _ _ _
    refine zSb1 (f := fun x => decide (x = 0)) (off := 6) (t := 12) vr_139_6 rfl rfl rfl (fun x5590 e5590 q5590 => ?_) (fun x5590 e5590 q5590 => ?_)
    · cases e5590
      have c5590 := of_decide_eq_true q5590
      have oa : op a = false := by
        rw [← hop a ha]
        exact tb_n (by omega) (hs_n c5590)
      refine zSiload (m := 2) (k := 5) vr_139_12 rfl rfl rfl (fun x5591 e5591 => ?_)
      cases e5591
      refine zSp0 (pc' := 15) (st' := .int (1) :: _) vr_139_14 rfl rfl ?_
      refine zSiload (m := 1) (k := 1) vr_139_15 rfl rfl rfl (fun x5593 e5593 => ?_)
      cases e5593
      refine zS2 (f := fun x y => .int (x <<< (y &&& 31))) vr_139_16 rfl rfl (fun x5594 y5594 e5594 f5594 => ?_)
      cases e5594
      cases f5594
      refine zS2 (f := fun x y => .int (x ||| y)) vr_139_17 rfl rfl (fun x5595 y5595 e5595 f5595 => ?_)
      cases e5595
      cases f5595
      refine zSistore (m := 2) (k := 6) vr_139_18 rfl rfl (fun x5596 e5596 => ?_)
      cases e5596
      show zL zrx zi _ 139 20 [(6, _), (0, _), (1, _), (2, _), (3, _), (4, _), (5, _)] [] _ _ _
      refine zSp0 (pc' := 22) (st' := .int (-9) :: _) vr_139_20 rfl rfl ?_
      refine zSistore (m := 2) (k := 7) vr_139_22 rfl rfl (fun x5598 e5598 => ?_)
      cases e5598
      show zL zrx zi _ 139 24 [(7, _), (6, _), (0, _), (1, _), (2, _), (3, _), (4, _), (5, _)] [] _ _ _
      refine zSp0 (pc' := 25) (st' := .int (0) :: _) vr_139_24 rfl rfl ?_
      refine zSistore (m := 2) (k := 8) vr_139_25 rfl rfl (fun x5600 e5600 => ?_)
      cases e5600
      show zL zrx zi _ 139 27 [(8, _), (7, _), (6, _), (0, _), (1, _), (2, _), (3, _), (4, _), (5, _)] [] _ _ _
      exact zL_pm _ _ _ [(8, _), (7, _), (6, _), (0, _), (1, _), (2, _), (3, _), (4, _), (5, _)] _ _ _ _ _ ⟨(List.forall_mem_cons.mpr ⟨List.mem_cons_self, (List.forall_mem_cons.mpr ⟨(List.mem_cons_of_mem _ List.mem_cons_self), (List.forall_mem_cons.mpr ⟨(List.mem_cons_of_mem _ (List.mem_cons_of_mem _ List.mem_cons_self)), (List.forall_mem_cons.mpr ⟨(List.mem_cons_of_mem _ (List.mem_cons_of_mem _ (List.mem_cons_of_mem _ List.mem_cons_self))), (List.forall_mem_cons.mpr ⟨(List.mem_cons_of_mem _ (List.mem_cons_of_mem _ (List.mem_cons_of_mem _ (List.mem_cons_of_mem _ List.mem_cons_self)))), (List.forall_mem_cons.mpr ⟨(List.mem_cons_of_mem _ (List.mem_cons_of_mem _ (List.mem_cons_of_mem _ (List.mem_cons_of_mem _ (List.mem_cons_of_mem _ List.mem_cons_self))))), (List.forall_mem_cons.mpr ⟨(List.mem_cons_of_mem _ (List.mem_cons_of_mem _ (List.mem_cons_of_mem _ (List.mem_cons_of_mem _ (List.mem_cons_of_mem _ (List.mem_cons_of_mem _ List.mem_cons_self)))))), (List.forall_mem_cons.mpr ⟨(List.mem_cons_of_mem _ (List.mem_cons_of_mem _ (List.mem_cons_of_mem _ (List.mem_cons_of_mem _ (List.mem_cons_of_mem _ (List.mem_cons_of_mem _ (List.mem_cons_of_mem _ List.mem_cons_self))))))), (List.forall_mem_cons.mpr ⟨(List.mem_cons_of_mem _ (List.mem_cons_of_mem _ (List.mem_cons_of_mem _ (List.mem_cons_of_mem _ (List.mem_cons_of_mem _ (List.mem_cons_of_mem _ (List.mem_cons_of_mem _ (List.mem_cons_of_mem _ List.mem_cons_self)))))))), (fun _ h => absurd h List.not_mem_nil)⟩)⟩)⟩)⟩)⟩)⟩)⟩)⟩)⟩), show ([8, 7, 6, 0, 1, 2, 3, 4, 5] : List Nat).Nodup by decide⟩ (C_mtl_loop hL hs h0 h24 hA hS hrs hrl r0 r40 hrq hci hO ha hop hd oa IH _ (Nat.le_refl _) 0 _ _ (Nat.zero_le _) rfl)
    · cases e5590
      have c5590 := ndc q5590
      refine zSp0 (pc' := 11) (st' := .int (-3) :: _) vr_139_9 rfl rfl ?_
      refine zLiret vr_139_11 rfl (fun x5602 e5602 => ?_)
      cases e5602
      have y := tb_y (by omega) (hs_y c5590)
      rw [hop a ha] at y
      refine ⟨rfl, congrArg (fun z : Int32 => Sum.inl (some (Value.int z))) ?_⟩
      conv => rhs; unfold tlM; unfold tlT
      rw [if_pos y]
  · obtain ⟨-, z⟩ := q5589
    cases z
theorem C_mtl {h : List zC} {el : Nat} {cnt : Int32} {cr : Int32} {rl : Nat} {Fk : Nat → Nat → Int32} {D : Nat} {dd wo : Int32} (hL : gF h 225 1 = some (.ref el)) (hs : gF h 225 2 = some (.int cnt)) (h0 : 0 ≤ cnt.toInt) (h24 : cnt.toInt ≤ 24) (hA : aZs h el cnt.toNatClampNeg Fk) (hS : Stc h) (hrs : gF h 223 2 = some (.int cr)) (hrl : gF h 223 1 = some (.ref rl)) (r0 : 0 ≤ cr.toInt) (r40 : cr.toInt ≤ 40) (hrq : ∀ k, k < cr.toNatClampNeg → ∃ x : Nat, gF h rl k = some (.ref x) ∧ RI h x ∧ ∃ a b c : Int32, gF h x 3 = some (.int a) ∧ gF h x 4 = some (.int b) ∧ gF h x 6 = some (.int c) ∧ rI 0 63 a ∧ rI 0 63 b) (hci : CI h D) (hO : ∀ k, k < cnt.toNatClampNeg → ¬ 0 ≤ Fk k 6 → ¬ Fk k 6 = -1 → (-2 - Fk k 6).toNatClampNeg < cnt.toNatClampNeg ∧ 0 ≤ (-2 - Fk k 6).toInt) : ∀ (N m : Nat), m ≤ N → mTold 139 h el cnt.toNatClampNeg Fk D dd wo (tieM h rl cr D) m
  | 0, m, hm => by
    have e : m = 0 := by omega
    subst e
    exact fun _ _ _ _ _ _ _ _ => trivial
  | N + 1, m, hm => by
    by_cases z : m ≤ N
    · exact C_mtl hL hs h0 h24 hA hS hrs hrl r0 r40 hrq hci hO N m z
    · have e : m = N + 1 := by omega
      subst e
      exact C_mtl0 hL hs h0 h24 hA hS hrs hrl r0 r40 hrq hci hO (fun q hq => C_mtl hL hs h0 h24 hA hS hrs hrl r0 r40 hrq hci hO N q hq)
set_option maxRecDepth 20000 in
theorem C_mcd_loop {h : List zC} {el : Nat} {cnt : Int32} {cr : Int32} {rl : Nat} {Fk : Nat → Nat → Int32} {D : Nat} {dd wo : Int32} (hL : gF h 225 1 = some (.ref el)) (hs : gF h 225 2 = some (.int cnt)) (h0 : 0 ≤ cnt.toInt) (h24 : cnt.toInt ≤ 24) (hA : aZs h el cnt.toNatClampNeg Fk) (hS : Stc h) (hrs : gF h 223 2 = some (.int cr)) (hrl : gF h 223 1 = some (.ref rl)) (r0 : 0 ≤ cr.toInt) (r40 : cr.toInt ≤ 40) (hrq : ∀ k, k < cr.toNatClampNeg → ∃ x : Nat, gF h rl k = some (.ref x) ∧ RI h x ∧ ∃ a b c : Int32, gF h x 3 = some (.int a) ∧ gF h x 4 = some (.int b) ∧ gF h x 6 = some (.int c) ∧ rI 0 63 a ∧ rI 0 63 b) (hci : CI h D) (hO : ∀ k, k < cnt.toNatClampNeg → ¬ 0 ≤ Fk k 6 → ¬ Fk k 6 = -1 → (-2 - Fk k 6).toNatClampNeg < cnt.toNatClampNeg ∧ 0 ≤ (-2 - Fk k 6).toInt) : ∀ (n k : Nat) (t : Int32) (u : Nat), k ≤ cnt.toNatClampNeg → foldT (fun k => geM Fk k && apM h el Fk D dd wo k) (fun k => tlM h el cnt.toNatClampNeg Fk D dd wo (tieM h rl cr D) 25 k (fun _ => false)) k = t → zL zrx zi n 140 7 [(5, .int (Int32.ofNat k)), (4, .int t), (0, .ref 213), (1, .ref D), (2, .int dd), (3, .int wo)] [] h u (fun o h2 _ => h2 = h ∧ o = .inl (some (.int (cdM h el cnt.toNatClampNeg Fk D dd wo (tieM h rl cr D)))))
  | 0, _, _, _ => fun _ _ => trivial
  | n + 1, k, t, u => fun hk hD => by
    have ck : cnt.toNatClampNeg = cnt.toInt.toNat := rfl
    have kk := (toNat_ofNat (m := k) (by omega))
    refine zLp vr_140_7 rfl rfl ?_
    refine zSaload (m := 1) (k := 0) vr_140_9 rfl rfl rfl ?_
    refine zLget vr_140_10 rfl (fun p5604 w5604 e5604 t5604 g5604 => ?_)
    cases e5604
    first | (rw [(st_213_9 hS)] at g5604; cases g5604) | (rw [ax8] at g5604; cases g5604) | skip
    refine zScall vr_140_13 rfl rfl rfl (fun m5605 _ => C_lsize _ _ _ _ hs) (fun v5605 h5605 u5605 q5605 => ?_) (fun E5605 h5605 u5605 q5605 => ?_)
    · obtain ⟨eh5605, z5605⟩ := q5605
      replace eh5605 := eh5605.symm
      subst eh5605
      cases z5605
      show zL zrx zi _ 140 18 [(5, _), (4, _), (0, _), (1, _), (2, _), (3, _)] [_, _] _ _ _
      refine zSb2 (f := fun x y => decide (y ≤ x)) (off := 79) (t := 97) vr_140_18 rfl rfl rfl (fun x5606 y5606 e5606 f5606 q5606 => ?_) (fun x5606 y5606 e5606 f5606 q5606 => ?_)
      · cases e5606
        cases f5606
        have c5606 := of_decide_eq_true q5606
        refine zSiload (m := 2) (k := 4) vr_140_97 rfl rfl rfl (fun x5607 e5607 => ?_)
        cases e5607
        refine zSp0 (pc' := 101) (st' := .int (-9) :: _) vr_140_99 rfl rfl ?_
        refine zSb2 (f := fun x y => decide (¬ x = y)) (off := 7) (t := 108) vr_140_101 rfl rfl rfl (fun x5609 y5609 e5609 f5609 q5609 => ?_) (fun x5609 y5609 e5609 f5609 q5609 => ?_)
        · cases e5609
          cases f5609
          have c5609 := of_decide_eq_true q5609
          refine zSiload (m := 2) (k := 4) vr_140_108 rfl rfl rfl (fun x5610 e5610 => ?_)
          cases e5610
          refine zLiret vr_140_110 rfl (fun x5611 e5611 => ?_)
          cases e5611
          have y := c5606
          rw [i32_le, kk.2] at y
          have e : k = cnt.toNatClampNeg := by omega
          subst e
          refine ⟨rfl, congrArg (fun z : Int32 => Sum.inl (some (Value.int z))) (Eq.symm ?_)⟩
          exact (alT_y (fun z => c5609 (hD.symm.trans z))).trans hD
        · cases e5609
          cases f5609
          have c5609 := ndc q5609
          refine zSp0 (pc' := 105) (st' := .int (-1) :: _) vr_140_104 rfl rfl ?_
          refine zSgo (t := 110) vr_140_105 rfl rfl ?_
          refine zLiret vr_140_110 rfl (fun x5614 e5614 => ?_)
          cases e5614
          have y := c5606
          rw [i32_le, kk.2] at y
          have e : k = cnt.toNatClampNeg := by omega
          subst e
          refine ⟨rfl, congrArg (fun z : Int32 => Sum.inl (some (Value.int z))) (Eq.symm ?_)⟩
          exact alT_n (hD.trans (Decidable.not_not.mp c5609))
      · cases e5606
        cases f5606
        have c5606 := ndc q5606
        have hlt : k < cnt.toNatClampNeg := by
          have y := c5606
          rw [i32_le, kk.2] at y
          omega
        obtain ⟨A, AS, AN, hq, az, lm⟩ := hA k hlt
        have rA : rf h el k = A := rf_of hq
        have ax8 : gF h A 8 = some (.int (Fk k 7)) := az.1 (8, 7) (by decide)
        have hq0 : gF h el (Int32.ofNat k).toNatClampNeg = some (.ref A) := by
          rw [kk.1]
          exact hq
        refine zSaload (m := 1) (k := 0) vr_140_21 rfl rfl rfl ?_
        refine zLget vr_140_22 rfl (fun p5616 w5616 e5616 t5616 g5616 => ?_)
        cases e5616
        first | (rw [(st_213_9 hS)] at g5616; cases g5616) | (rw [ax8] at g5616; cases g5616) | skip
        refine zSiload (m := 2) (k := 5) vr_140_25 rfl rfl rfl (fun x5617 e5617 => ?_)
        cases e5617
        refine zScall vr_140_27 rfl rfl rfl (fun m5618 _ => C_get _ _ _ _ _ hL hs) (fun v5618 h5618 u5618 q5618 => ?_) (fun E5618 h5618 u5618 q5618 => ?_)
        · obtain ⟨eh5618, y5618, w5618, z5618, k5618⟩ := q5618
          replace eh5618 := eh5618.symm
          subst eh5618
          cases z5618
          show zL zrx zi _ 140 32 [(5, _), (4, _), (0, _), (1, _), (2, _), (3, _)] [_] _ _ _
          have e1 := k5618
          rw [kk.1, hq] at e1
          cases e1
          refine zLcst vr_140_32 rfl (fun p5619 e5619 => ?_)
          cases e5619
          refine zLget vr_140_35 rfl (fun p5620 w5620 e5620 t5620 g5620 => ?_)
          cases e5620
          first | (rw [(st_213_9 hS)] at g5620; cases g5620) | (rw [ax8] at g5620; cases g5620) | skip
          refine zSp0 (pc' := 39) (st' := .int (-1) :: _) vr_140_38 rfl rfl ?_
          refine zSb2 (f := fun x y => decide (¬ x = y)) (off := 52) (t := 91) vr_140_39 rfl rfl rfl (fun x5622 y5622 e5622 f5622 q5622 => ?_) (fun x5622 y5622 e5622 f5622 q5622 => ?_)
          · cases e5622
            cases f5622
            have c5622 := of_decide_eq_true q5622
            refine zSiinc vr_140_91 rfl rfl (fun x5623 e5623 => ?_)
            cases e5623
            show zL zrx zi _ 140 94 [(5, _), (4, _), (0, _), (1, _), (2, _), (3, _)] [] _ _ _
            refine zSgo (t := 7) vr_140_94 rfl rfl ?_
            rw [ofNat_succ]
            have s : (geM Fk k && apM h el Fk D dd wo k) = false := by
              rw [show geM Fk k = false from decide_eq_false c5622]
              rfl
            refine zL_pm _ _ _ [(5, _), (4, _), (0, _), (1, _), (2, _), (3, _)] _ _ _ _ _ ⟨(List.forall_mem_cons.mpr ⟨List.mem_cons_self, (List.forall_mem_cons.mpr ⟨(List.mem_cons_of_mem _ List.mem_cons_self), (List.forall_mem_cons.mpr ⟨(List.mem_cons_of_mem _ (List.mem_cons_of_mem _ List.mem_cons_self)), (List.forall_mem_cons.mpr ⟨(List.mem_cons_of_mem _ (List.mem_cons_of_mem _ (List.mem_cons_of_mem _ List.mem_cons_self))), (List.forall_mem_cons.mpr ⟨(List.mem_cons_of_mem _ (List.mem_cons_of_mem _ (List.mem_cons_of_mem _ (List.mem_cons_of_mem _ List.mem_cons_self)))), (List.forall_mem_cons.mpr ⟨(List.mem_cons_of_mem _ (List.mem_cons_of_mem _ (List.mem_cons_of_mem _ (List.mem_cons_of_mem _ (List.mem_cons_of_mem _ List.mem_cons_self))))), (fun _ h => absurd h List.not_mem_nil)⟩)⟩)⟩)⟩)⟩)⟩), show ([5, 4, 0, 1, 2, 3] : List Nat).Nodup by decide⟩ (C_mcd_loop hL hs h0 h24 hA hS hrs hrl r0 r40 hrq hci hO n (k + 1) _ _ (by omega) ?_)
            rw [foldT_n (S := (fun k => geM Fk k && apM h el Fk D dd wo k)) s, hD]
          · cases e5622
            cases f5622
            have c5622 := ndc q5622
            refine zSaload (m := 1) (k := 0) vr_140_42 rfl rfl rfl ?_
            refine zSiload (m := 2) (k := 5) vr_140_43 rfl rfl rfl (fun x5626 e5626 => ?_)
            cases e5626
            refine zSiload (m := 1) (k := 2) vr_140_45 rfl rfl rfl (fun x5627 e5627 => ?_)
            cases e5627
            refine zSiload (m := 1) (k := 3) vr_140_46 rfl rfl rfl (fun x5628 e5628 => ?_)
            cases e5628
            refine zScall vr_140_47 rfl rfl rfl (fun m5629 _ => C_mIF _ _ _ _ _ _ hS hL hs hq0) (fun v5629 h5629 u5629 q5629 => ?_) (fun E5629 h5629 u5629 q5629 => ?_)
            · obtain ⟨eh5629, z5629⟩ := q5629
              replace eh5629 := eh5629.symm
              subst eh5629
              cases z5629
              show zL zrx zi _ 140 50 [(5, _), (4, _), (0, _), (1, _), (2, _), (3, _)] [_] _ _ _
              refine zSb1 (f := fun x => decide (x = 0)) (off := 41) (t := 91) vr_140_50 rfl rfl rfl (fun x5630 e5630 q5630 => ?_) (fun x5630 e5630 q5630 => ?_)
              · cases e5630
                have c5630 := of_decide_eq_true q5630
                refine zSiinc vr_140_91 rfl rfl (fun x5631 e5631 => ?_)
                cases e5631
                show zL zrx zi _ 140 94 [(5, _), (4, _), (0, _), (1, _), (2, _), (3, _)] [] _ _ _
                refine zSgo (t := 7) vr_140_94 rfl rfl ?_
                rw [ofNat_succ]
                have nf : ¬ (¬ Int32.ofNat k = wo ∧ foA (iv h A 9) (iv h A 10) (iv h A 11) dd) := fun z => by
                  have y := c5630
                  rw [if_pos z] at y
                  exact absurd y (by decide)
                have fo : foM h el dd wo k = false := by
                  unfold foM
                  rw [rA]
                  exact decide_eq_false nf
                have ap : apM h el Fk D dd wo k = false := by
                  unfold apM
                  rw [fo, Bool.false_and]
                have s : (geM Fk k && apM h el Fk D dd wo k) = false := by
                  rw [ap, Bool.and_false]
                refine zL_pm _ _ _ [(5, _), (4, _), (0, _), (1, _), (2, _), (3, _)] _ _ _ _ _ ⟨(List.forall_mem_cons.mpr ⟨List.mem_cons_self, (List.forall_mem_cons.mpr ⟨(List.mem_cons_of_mem _ List.mem_cons_self), (List.forall_mem_cons.mpr ⟨(List.mem_cons_of_mem _ (List.mem_cons_of_mem _ List.mem_cons_self)), (List.forall_mem_cons.mpr ⟨(List.mem_cons_of_mem _ (List.mem_cons_of_mem _ (List.mem_cons_of_mem _ List.mem_cons_self))), (List.forall_mem_cons.mpr ⟨(List.mem_cons_of_mem _ (List.mem_cons_of_mem _ (List.mem_cons_of_mem _ (List.mem_cons_of_mem _ List.mem_cons_self)))), (List.forall_mem_cons.mpr ⟨(List.mem_cons_of_mem _ (List.mem_cons_of_mem _ (List.mem_cons_of_mem _ (List.mem_cons_of_mem _ (List.mem_cons_of_mem _ List.mem_cons_self))))), (fun _ h => absurd h List.not_mem_nil)⟩)⟩)⟩)⟩)⟩)⟩), show ([5, 4, 0, 1, 2, 3] : List Nat).Nodup by decide⟩ (C_mcd_loop hL hs h0 h24 hA hS hrs hrl r0 r40 hrq hci hO n (k + 1) _ _ (by omega) ?_)
                rw [foldT_n (S := (fun k => geM Fk k && apM h el Fk D dd wo k)) s, hD]
              · cases e5630
                have c5630 := ndc q5630
                refine zSaload (m := 1) (k := 0) vr_140_53 rfl rfl rfl ?_
                refine zLget vr_140_54 rfl (fun p5634 w5634 e5634 t5634 g5634 => ?_)
                cases e5634
                first | (rw [(st_213_9 hS)] at g5634; cases g5634) | (rw [ax8] at g5634; cases g5634) | skip
                refine zSiload (m := 2) (k := 5) vr_140_57 rfl rfl rfl (fun x5635 e5635 => ?_)
                cases e5635
                refine zScall vr_140_59 rfl rfl rfl (fun m5636 _ => C_get _ _ _ _ _ hL hs) (fun v5636 h5636 u5636 q5636 => ?_) (fun E5636 h5636 u5636 q5636 => ?_)
                · obtain ⟨eh5636, y5636, w5636, z5636, k5636⟩ := q5636
                  replace eh5636 := eh5636.symm
                  subst eh5636
                  cases z5636
                  show zL zrx zi _ 140 64 [(5, _), (4, _), (0, _), (1, _), (2, _), (3, _)] [_] _ _ _
                  have e2 := k5636
                  rw [kk.1, hq] at e2
                  cases e2
                  refine zLcst vr_140_64 rfl (fun p5637 e5637 => ?_)
                  cases e5637
                  refine zSaload (m := 1) (k := 1) vr_140_67 rfl rfl rfl ?_
                  refine zScall vr_140_68 rfl rfl rfl (fun m5639 _ => C_mapp _ _ _ _ _ az lm hci) (fun v5639 h5639 u5639 q5639 => ?_) (fun E5639 h5639 u5639 q5639 => ?_)
                  · obtain ⟨eh5639, z5639⟩ := q5639
                    replace eh5639 := eh5639.symm
                    subst eh5639
                    cases z5639
                    show zL zrx zi _ 140 71 [(5, _), (4, _), (0, _), (1, _), (2, _), (3, _)] [_] _ _ _
                    refine zSb1 (f := fun x => decide (x = 0)) (off := 20) (t := 91) vr_140_71 rfl rfl rfl (fun x5640 e5640 q5640 => ?_) (fun x5640 e5640 q5640 => ?_)
                    · cases e5640
                      have c5640 := of_decide_eq_true q5640
                      refine zSiinc vr_140_91 rfl rfl (fun x5641 e5641 => ?_)
                      cases e5641
                      show zL zrx zi _ 140 94 [(5, _), (4, _), (0, _), (1, _), (2, _), (3, _)] [] _ _ _
                      refine zSgo (t := 7) vr_140_94 rfl rfl ?_
                      rw [ofNat_succ]
                      have nf : ¬ okC (Fk k) (iv h D 3) (iv h D 2) (iv h D 4) (iv h D 5) := fun z => by
                        have y := c5640
                        rw [if_pos z] at y
                        exact absurd y (by decide)
                      have ap : apM h el Fk D dd wo k = false := by
                        unfold apM
                        rw [decide_eq_false nf, Bool.and_false]
                      have s : (geM Fk k && apM h el Fk D dd wo k) = false := by
                        rw [ap, Bool.and_false]
                      refine zL_pm _ _ _ [(5, _), (4, _), (0, _), (1, _), (2, _), (3, _)] _ _ _ _ _ ⟨(List.forall_mem_cons.mpr ⟨List.mem_cons_self, (List.forall_mem_cons.mpr ⟨(List.mem_cons_of_mem _ List.mem_cons_self), (List.forall_mem_cons.mpr ⟨(List.mem_cons_of_mem _ (List.mem_cons_of_mem _ List.mem_cons_self)), (List.forall_mem_cons.mpr ⟨(List.mem_cons_of_mem _ (List.mem_cons_of_mem _ (List.mem_cons_of_mem _ List.mem_cons_self))), (List.forall_mem_cons.mpr ⟨(List.mem_cons_of_mem _ (List.mem_cons_of_mem _ (List.mem_cons_of_mem _ (List.mem_cons_of_mem _ List.mem_cons_self)))), (List.forall_mem_cons.mpr ⟨(List.mem_cons_of_mem _ (List.mem_cons_of_mem _ (List.mem_cons_of_mem _ (List.mem_cons_of_mem _ (List.mem_cons_of_mem _ List.mem_cons_self))))), (fun _ h => absurd h List.not_mem_nil)⟩)⟩)⟩)⟩)⟩)⟩), show ([5, 4, 0, 1, 2, 3] : List Nat).Nodup by decide⟩ (C_mcd_loop hL hs h0 h24 hA hS hrs hrl r0 r40 hrq hci hO n (k + 1) _ _ (by omega) ?_)
                      rw [foldT_n (S := (fun k => geM Fk k && apM h el Fk D dd wo k)) s, hD]
                    · cases e5640
                      have c5640 := ndc q5640
                      refine zSiload (m := 2) (k := 4) vr_140_74 rfl rfl rfl (fun x5643 e5643 => ?_)
                      cases e5643
                      refine zSaload (m := 1) (k := 0) vr_140_76 rfl rfl rfl ?_
                      refine zSiload (m := 2) (k := 5) vr_140_77 rfl rfl rfl (fun x5645 e5645 => ?_)
                      cases e5645
                      refine zSaload (m := 1) (k := 1) vr_140_79 rfl rfl rfl ?_
                      refine zSiload (m := 1) (k := 2) vr_140_80 rfl rfl rfl (fun x5647 e5647 => ?_)
                      cases e5647
                      refine zSiload (m := 1) (k := 3) vr_140_81 rfl rfl rfl (fun x5648 e5648 => ?_)
                      cases e5648
                      refine zSp0 (pc' := 83) (st' := .int (0) :: _) vr_140_82 rfl rfl ?_
                      refine zScall vr_140_83 rfl rfl rfl (fun m5650 _ => C_mtl hL hs h0 h24 hA hS hrs hrl r0 r40 hrq hci hO _ _ (Nat.le_refl _) k 25 (fun _ => false) _ _ hlt (fun j _ => tb_zero j) (by omega)) (fun v5650 h5650 u5650 q5650 => ?_) (fun E5650 h5650 u5650 q5650 => ?_)
                      · obtain ⟨eh5650, z5650⟩ := q5650
                        replace eh5650 := eh5650.symm
                        subst eh5650
                        cases z5650
                        show zL zrx zi _ 140 86 [(5, _), (4, _), (0, _), (1, _), (2, _), (3, _)] [_, _] _ _ _
                        refine zScall vr_140_86 rfl rfl rfl (fun m5651 _ => C_and _ _ _ _ _) (fun v5651 h5651 u5651 q5651 => ?_) (fun E5651 h5651 u5651 q5651 => ?_)
                        · obtain ⟨eh5651, z5651⟩ := q5651
                          replace eh5651 := eh5651.symm
                          subst eh5651
                          cases z5651
                          show zL zrx zi _ 140 89 [(5, _), (4, _), (0, _), (1, _), (2, _), (3, _)] [_] _ _ _
                          refine zSistore (m := 2) (k := 4) vr_140_89 rfl rfl (fun x5652 e5652 => ?_)
                          cases e5652
                          show zL zrx zi _ 140 91 [(4, _), (5, _), (0, _), (1, _), (2, _), (3, _)] [] _ _ _
                          refine zSiinc vr_140_91 rfl rfl (fun x5653 e5653 => ?_)
                          cases e5653
                          show zL zrx zi _ 140 94 [(5, _), (4, _), (0, _), (1, _), (2, _), (3, _)] [] _ _ _
                          refine zSgo (t := 7) vr_140_94 rfl rfl ?_
                          rw [ofNat_succ]
                          have yf : (¬ Int32.ofNat k = wo ∧ foA (iv h A 9) (iv h A 10) (iv h A 11) dd) := by
                            by_cases z : (¬ Int32.ofNat k = wo ∧ foA (iv h A 9) (iv h A 10) (iv h A 11) dd)
                            · exact z
                            · have y := c5630
                              rw [if_neg z] at y
                              exact absurd rfl y
                          have fo : foM h el dd wo k = true := by
                            unfold foM
                            rw [rA]
                            exact decide_eq_true yf
                          have yo : okC (Fk k) (iv h D 3) (iv h D 2) (iv h D 4) (iv h D 5) := by
                            by_cases z : okC (Fk k) (iv h D 3) (iv h D 2) (iv h D 4) (iv h D 5)
                            · exact z
                            · have y := c5640
                              rw [if_neg z] at y
                              exact absurd rfl y
                          have ap : apM h el Fk D dd wo k = true := by
                            unfold apM
                            rw [fo, decide_eq_true yo]
                            rfl
                          have s : (geM Fk k && apM h el Fk D dd wo k) = true := by
                            rw [ap, show geM Fk k = true from decide_eq_true (Decidable.not_not.mp c5622)]
                            rfl
                          refine zL_pm _ _ _ [(5, _), (4, _), (0, _), (1, _), (2, _), (3, _)] _ _ _ _ _ ⟨(List.forall_mem_cons.mpr ⟨List.mem_cons_self, (List.forall_mem_cons.mpr ⟨(List.mem_cons_of_mem _ List.mem_cons_self), (List.forall_mem_cons.mpr ⟨(List.mem_cons_of_mem _ (List.mem_cons_of_mem _ List.mem_cons_self)), (List.forall_mem_cons.mpr ⟨(List.mem_cons_of_mem _ (List.mem_cons_of_mem _ (List.mem_cons_of_mem _ List.mem_cons_self))), (List.forall_mem_cons.mpr ⟨(List.mem_cons_of_mem _ (List.mem_cons_of_mem _ (List.mem_cons_of_mem _ (List.mem_cons_of_mem _ List.mem_cons_self)))), (List.forall_mem_cons.mpr ⟨(List.mem_cons_of_mem _ (List.mem_cons_of_mem _ (List.mem_cons_of_mem _ (List.mem_cons_of_mem _ (List.mem_cons_of_mem _ List.mem_cons_self))))), (fun _ h => absurd h List.not_mem_nil)⟩)⟩)⟩)⟩)⟩)⟩), show ([5, 4, 0, 1, 2, 3] : List Nat).Nodup by decide⟩ (C_mcd_loop hL hs h0 h24 hA hS hrs hrl r0 r40 hrq hci hO n (k + 1) _ _ (by omega) ?_)
                          rw [foldT_y (S := (fun k => geM Fk k && apM h el Fk D dd wo k)) s, hD]
                        · obtain ⟨-, z⟩ := q5651
                          cases z
                      · obtain ⟨-, z⟩ := q5650
                        cases z
                  · obtain ⟨-, z⟩ := q5639
                    cases z
                · obtain ⟨-, -, w, z, -⟩ := q5636
                  cases z
            · obtain ⟨-, z⟩ := q5629
              cases z
        · obtain ⟨-, -, w, z, -⟩ := q5618
          cases z
    · obtain ⟨-, z⟩ := q5605
      cases z
theorem C_mcode (n : Nat) (D : Nat) (dd wo : Int32) (h : List zC) (u : Nat) {el : Nat} {cnt : Int32} {cr : Int32} {rl : Nat} {Fk : Nat → Nat → Int32} (hL : gF h 225 1 = some (.ref el)) (hs : gF h 225 2 = some (.int cnt)) (h0 : 0 ≤ cnt.toInt) (h24 : cnt.toInt ≤ 24) (hA : aZs h el cnt.toNatClampNeg Fk) (hS : Stc h) (hrs : gF h 223 2 = some (.int cr)) (hrl : gF h 223 1 = some (.ref rl)) (r0 : 0 ≤ cr.toInt) (r40 : cr.toInt ≤ 40) (hrq : ∀ k, k < cr.toNatClampNeg → ∃ x : Nat, gF h rl k = some (.ref x) ∧ RI h x ∧ ∃ a b c : Int32, gF h x 3 = some (.int a) ∧ gF h x 4 = some (.int b) ∧ gF h x 6 = some (.int c) ∧ rI 0 63 a ∧ rI 0 63 b) (hci : CI h D) (hO : ∀ k, k < cnt.toNatClampNeg → ¬ 0 ≤ Fk k 6 → ¬ Fk k 6 = -1 → (-2 - Fk k 6).toNatClampNeg < cnt.toNatClampNeg ∧ 0 ≤ (-2 - Fk k 6).toInt) : zL zrx zi n 140 0 [(0, .ref 213), (1, .ref D), (2, .int dd), (3, .int wo)] [] h u (fun o h2 _ => h2 = h ∧ o = .inl (some (.int (cdM h el cnt.toNatClampNeg Fk D dd wo (tieM h rl cr D))))) := by
  refine zSp0 (pc' := 2) (st' := .int (-9) :: _) vr_140_0 rfl rfl ?_
  refine zSistore (m := 2) (k := 4) vr_140_2 rfl rfl (fun x5656 e5656 => ?_)
  cases e5656
  show zL zrx zi _ 140 4 [(4, _), (0, _), (1, _), (2, _), (3, _)] [] _ _ _
  refine zSp0 (pc' := 5) (st' := .int (0) :: _) vr_140_4 rfl rfl ?_
  refine zSistore (m := 2) (k := 5) vr_140_5 rfl rfl (fun x5658 e5658 => ?_)
  cases e5658
  show zL zrx zi _ 140 7 [(5, _), (4, _), (0, _), (1, _), (2, _), (3, _)] [] _ _ _
  exact zL_pm _ _ _ [(5, _), (4, _), (0, _), (1, _), (2, _), (3, _)] _ _ _ _ _ ⟨(List.forall_mem_cons.mpr ⟨List.mem_cons_self, (List.forall_mem_cons.mpr ⟨(List.mem_cons_of_mem _ List.mem_cons_self), (List.forall_mem_cons.mpr ⟨(List.mem_cons_of_mem _ (List.mem_cons_of_mem _ List.mem_cons_self)), (List.forall_mem_cons.mpr ⟨(List.mem_cons_of_mem _ (List.mem_cons_of_mem _ (List.mem_cons_of_mem _ List.mem_cons_self))), (List.forall_mem_cons.mpr ⟨(List.mem_cons_of_mem _ (List.mem_cons_of_mem _ (List.mem_cons_of_mem _ (List.mem_cons_of_mem _ List.mem_cons_self)))), (List.forall_mem_cons.mpr ⟨(List.mem_cons_of_mem _ (List.mem_cons_of_mem _ (List.mem_cons_of_mem _ (List.mem_cons_of_mem _ (List.mem_cons_of_mem _ List.mem_cons_self))))), (fun _ h => absurd h List.not_mem_nil)⟩)⟩)⟩)⟩)⟩)⟩), show ([5, 4, 0, 1, 2, 3] : List Nat).Nodup by decide⟩ (C_mcd_loop hL hs h0 h24 hA hS hrs hrl r0 r40 hrq hci hO _ 0 _ _ (Nat.zero_le _) rfl)
theorem C_mcode1 (n : Nat) (D : Nat) (h : List zC) (u : Nat) {el : Nat} {cnt : Int32} {cr : Int32} {rl : Nat} {Fk : Nat → Nat → Int32} (hL : gF h 225 1 = some (.ref el)) (hs : gF h 225 2 = some (.int cnt)) (h0 : 0 ≤ cnt.toInt) (h24 : cnt.toInt ≤ 24) (hA : aZs h el cnt.toNatClampNeg Fk) (hS : Stc h) (hrs : gF h 223 2 = some (.int cr)) (hrl : gF h 223 1 = some (.ref rl)) (r0 : 0 ≤ cr.toInt) (r40 : cr.toInt ≤ 40) (hrq : ∀ k, k < cr.toNatClampNeg → ∃ x : Nat, gF h rl k = some (.ref x) ∧ RI h x ∧ ∃ a b c : Int32, gF h x 3 = some (.int a) ∧ gF h x 4 = some (.int b) ∧ gF h x 6 = some (.int c) ∧ rI 0 63 a ∧ rI 0 63 b) (hci : CI h D) (hO : ∀ k, k < cnt.toNatClampNeg → ¬ 0 ≤ Fk k 6 → ¬ Fk k 6 = -1 → (-2 - Fk k 6).toNatClampNeg < cnt.toNatClampNeg ∧ 0 ≤ (-2 - Fk k 6).toInt) {dd : Int32} (hd6 : gF h D 6 = some (.int dd)) : zL zrx zi n 141 0 [(0, .ref 213), (1, .ref D)] [] h u (fun o h2 _ => h2 = h ∧ o = .inl (some (.int (cdM h el cnt.toNatClampNeg Fk D dd (-1) (tieM h rl cr D))))) := by
  refine zSaload (m := 1) (k := 0) vr_141_0 rfl rfl rfl ?_
  refine zSaload (m := 1) (k := 1) vr_141_1 rfl rfl rfl ?_
  refine zSaload (m := 1) (k := 1) vr_141_2 rfl rfl rfl ?_
  refine zLget vr_141_3 rfl (fun p5662 w5662 e5662 t5662 g5662 => ?_)
  cases e5662
  first | (rw [hd6] at g5662; cases g5662) | skip
  refine zSp0 (pc' := 7) (st' := .int (-1) :: _) vr_141_6 rfl rfl ?_
  refine zScall vr_141_7 rfl rfl rfl (fun m5664 _ => C_mcode _ _ _ _ _ _ hL hs h0 h24 hA hS hrs hrl r0 r40 hrq hci hO) (fun v5664 h5664 u5664 q5664 => ?_) (fun E5664 h5664 u5664 q5664 => ?_)
  · obtain ⟨eh5664, z5664⟩ := q5664
    replace eh5664 := eh5664.symm
    subst eh5664
    cases z5664
    show zL zrx zi _ 141 10 [(0, _), (1, _)] [_] _ _ _
    refine zLiret vr_141_10 rfl (fun x5665 e5665 => ?_)
    cases e5665
    exact ⟨rfl, rfl⟩
  · obtain ⟨-, z⟩ := q5664
    cases z

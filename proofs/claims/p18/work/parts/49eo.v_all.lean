/-! ===== values: all, 12 ===== -/
theorem vr_73_0 : zrx 73 0 = some (.iload_n 1, 0, 0) := by decide +kernel
theorem vr_73_1 : zrx 73 1 = some (.aload_n 0, 0, 0) := by decide +kernel
theorem vr_73_2 : zrx 73 2 = some (.getfield 135, 13, 3) := by decide +kernel
theorem vr_73_5 : zrx 73 5 = some (.invokestatic 68, 96, 0) := by decide +kernel
theorem vr_73_8 : zrx 73 8 = some (.iload_n 2, 0, 0) := by decide +kernel
theorem vr_73_9 : zrx 73 9 = some (.iconst 4, 0, 0) := by decide +kernel
theorem vr_73_10 : zrx 73 10 = some (.invokestatic 68, 96, 0) := by decide +kernel
theorem vr_73_13 : zrx 73 13 = some (.aload_n 0, 0, 0) := by decide +kernel
theorem vr_73_14 : zrx 73 14 = some (.getfield 26, 13, 8) := by decide +kernel
theorem vr_73_17 : zrx 73 17 = some (.iload_n 1, 0, 0) := by decide +kernel
theorem vr_73_18 : zrx 73 18 = some (.aaload, 0, 0) := by decide +kernel
theorem vr_73_19 : zrx 73 19 = some (.astore_n 3, 0, 0) := by decide +kernel
theorem vr_73_20 : zrx 73 20 = some (.aload_n 3, 0, 0) := by decide +kernel
theorem vr_73_21 : zrx 73 21 = some (.getfield 217, 7, 7) := by decide +kernel
theorem vr_73_24 : zrx 73 24 = some (.iconst (-1), 0, 0) := by decide +kernel
theorem vr_73_25 : zrx 73 25 = some (.if_icmp .ne 7, 0, 0) := by decide +kernel
theorem vr_73_28 : zrx 73 28 = some (.iconst 1, 0, 0) := by decide +kernel
theorem vr_73_29 : zrx 73 29 = some (.goto 4, 0, 0) := by decide +kernel
theorem vr_73_32 : zrx 73 32 = some (.iconst 0, 0, 0) := by decide +kernel
theorem vr_73_33 : zrx 73 33 = some (.invokestatic 83, 98, 0) := by decide +kernel
theorem vr_73_36 : zrx 73 36 = some (.aload_n 3, 0, 0) := by decide +kernel
theorem vr_73_37 : zrx 73 37 = some (.aload_n 0, 0, 0) := by decide +kernel
theorem vr_73_38 : zrx 73 38 = some (.aload_n 0, 0, 0) := by decide +kernel
theorem vr_73_39 : zrx 73 39 = some (.getfield 18, 13, 6) := by decide +kernel
theorem vr_73_42 : zrx 73 42 = some (.iload_n 2, 0, 0) := by decide +kernel
theorem vr_73_43 : zrx 73 43 = some (.iaload, 0, 0) := by decide +kernel
theorem vr_73_44 : zrx 73 44 = some (.aload_n 3, 0, 0) := by decide +kernel
theorem vr_73_45 : zrx 73 45 = some (.invokevirtual 220, 102, 140) := by decide +kernel
theorem vr_73_48 : zrx 73 48 = some (.putfield 224, 7, 8) := by decide +kernel
theorem vr_73_51 : zrx 73 51 = some (.aload_n 3, 0, 0) := by decide +kernel
theorem vr_73_52 : zrx 73 52 = some (.iload_n 2, 0, 0) := by decide +kernel
theorem vr_73_53 : zrx 73 53 = some (.putfield 217, 7, 7) := by decide +kernel
theorem vr_73_56 : zrx 73 56 = some (.aload_n 3, 0, 0) := by decide +kernel
theorem vr_73_57 : zrx 73 57 = some (.getfield 224, 7, 8) := by decide +kernel
theorem vr_73_60 : zrx 73 60 = some (.ireturn, 0, 0) := by decide +kernel
theorem vr_74_0 : zrx 74 0 = some (.iload_n 1, 0, 0) := by decide +kernel
theorem vr_74_1 : zrx 74 1 = some (.aload_n 0, 0, 0) := by decide +kernel
theorem vr_74_2 : zrx 74 2 = some (.getfield 135, 13, 3) := by decide +kernel
theorem vr_74_5 : zrx 74 5 = some (.invokestatic 68, 96, 0) := by decide +kernel
theorem vr_74_8 : zrx 74 8 = some (.aload_n 0, 0, 0) := by decide +kernel
theorem vr_74_9 : zrx 74 9 = some (.getfield 26, 13, 8) := by decide +kernel
theorem vr_74_12 : zrx 74 12 = some (.iload_n 1, 0, 0) := by decide +kernel
theorem vr_74_13 : zrx 74 13 = some (.aaload, 0, 0) := by decide +kernel
theorem vr_74_14 : zrx 74 14 = some (.astore_n 2, 0, 0) := by decide +kernel
theorem vr_74_15 : zrx 74 15 = some (.aload_n 2, 0, 0) := by decide +kernel
theorem vr_74_16 : zrx 74 16 = some (.getfield 217, 7, 7) := by decide +kernel
theorem vr_74_19 : zrx 74 19 = some (.iconst (-1), 0, 0) := by decide +kernel
theorem vr_74_20 : zrx 74 20 = some (.if_icmp .eq 7, 0, 0) := by decide +kernel
theorem vr_74_23 : zrx 74 23 = some (.iconst 1, 0, 0) := by decide +kernel
theorem vr_74_24 : zrx 74 24 = some (.goto 4, 0, 0) := by decide +kernel
theorem vr_74_27 : zrx 74 27 = some (.iconst 0, 0, 0) := by decide +kernel
theorem vr_74_28 : zrx 74 28 = some (.invokestatic 83, 98, 0) := by decide +kernel
theorem vr_74_31 : zrx 74 31 = some (.aload_n 0, 0, 0) := by decide +kernel
theorem vr_74_32 : zrx 74 32 = some (.aload_n 2, 0, 0) := by decide +kernel
theorem vr_74_33 : zrx 74 33 = some (.aload_n 2, 0, 0) := by decide +kernel
theorem vr_74_34 : zrx 74 34 = some (.getfield 158, 7, 6) := by decide +kernel
theorem vr_74_37 : zrx 74 37 = some (.invokevirtual 227, 101, 140) := by decide +kernel
theorem vr_74_40 : zrx 74 40 = some (.istore_n 3, 0, 0) := by decide +kernel
theorem vr_74_41 : zrx 74 41 = some (.aload_n 2, 0, 0) := by decide +kernel
theorem vr_74_42 : zrx 74 42 = some (.getfield 224, 7, 8) := by decide +kernel
theorem vr_74_45 : zrx 74 45 = some (.iload_n 3, 0, 0) := by decide +kernel
theorem vr_74_46 : zrx 74 46 = some (.if_icmp .eq 18, 0, 0) := by decide +kernel
theorem vr_74_49 : zrx 74 49 = some (.aload_n 2, 0, 0) := by decide +kernel
theorem vr_74_50 : zrx 74 50 = some (.iload_n 3, 0, 0) := by decide +kernel
theorem vr_74_51 : zrx 74 51 = some (.putfield 224, 7, 8) := by decide +kernel
theorem vr_74_54 : zrx 74 54 = some (.aload_n 0, 0, 0) := by decide +kernel
theorem vr_74_55 : zrx 74 55 = some (.dup, 0, 0) := by decide +kernel
theorem vr_74_56 : zrx 74 56 = some (.getfield 231, 13, 2) := by decide +kernel
theorem vr_74_59 : zrx 74 59 = some (.iconst 1, 0, 0) := by decide +kernel
theorem vr_74_60 : zrx 74 60 = some (.iadd, 0, 0) := by decide +kernel
theorem vr_74_61 : zrx 74 61 = some (.putfield 231, 13, 2) := by decide +kernel
theorem vr_74_64 : zrx 74 64 = some (.aload_n 2, 0, 0) := by decide +kernel
theorem vr_74_65 : zrx 74 65 = some (.getfield 224, 7, 8) := by decide +kernel
theorem vr_74_68 : zrx 74 68 = some (.ireturn, 0, 0) := by decide +kernel
theorem vr_80_0 : zrx 80 0 = some (.iload_n 1, 0, 0) := by decide +kernel
theorem vr_80_1 : zrx 80 1 = some (.aload_n 0, 0, 0) := by decide +kernel
theorem vr_80_2 : zrx 80 2 = some (.getfield 135, 13, 3) := by decide +kernel
theorem vr_80_5 : zrx 80 5 = some (.invokestatic 68, 96, 0) := by decide +kernel
theorem vr_80_8 : zrx 80 8 = some (.iload_n 2, 0, 0) := by decide +kernel
theorem vr_80_9 : zrx 80 9 = some (.aload_n 0, 0, 0) := by decide +kernel
theorem vr_80_10 : zrx 80 10 = some (.getfield 42, 13, 10) := by decide +kernel
theorem vr_80_13 : zrx 80 13 = some (.getfield 165, 5, 2) := by decide +kernel
theorem vr_80_16 : zrx 80 16 = some (.invokestatic 68, 96, 0) := by decide +kernel
theorem vr_80_19 : zrx 80 19 = some (.aload_n 0, 0, 0) := by decide +kernel
theorem vr_80_20 : zrx 80 20 = some (.getfield 26, 13, 8) := by decide +kernel
theorem vr_80_23 : zrx 80 23 = some (.iload_n 1, 0, 0) := by decide +kernel
theorem vr_80_24 : zrx 80 24 = some (.aaload, 0, 0) := by decide +kernel
theorem vr_80_25 : zrx 80 25 = some (.astore_n 3, 0, 0) := by decide +kernel
theorem vr_80_26 : zrx 80 26 = some (.aload_n 0, 0, 0) := by decide +kernel
theorem vr_80_27 : zrx 80 27 = some (.getfield 42, 13, 10) := by decide +kernel
theorem vr_80_30 : zrx 80 30 = some (.iload_n 2, 0, 0) := by decide +kernel
theorem vr_80_31 : zrx 80 31 = some (.aload_n 0, 0, 0) := by decide +kernel
theorem vr_80_32 : zrx 80 32 = some (.getfield 42, 13, 10) := by decide +kernel
theorem vr_80_35 : zrx 80 35 = some (.aload_n 3, 0, 0) := by decide +kernel
theorem vr_80_36 : zrx 80 36 = some (.getfield 158, 7, 6) := by decide +kernel
theorem vr_80_39 : zrx 80 39 = some (.invokevirtual 248, 12, 60) := by decide +kernel
theorem vr_80_42 : zrx 80 42 = some (.aload_n 3, 0, 0) := by decide +kernel
theorem vr_80_43 : zrx 80 43 = some (.aload_n 3, 0, 0) := by decide +kernel
theorem vr_80_44 : zrx 80 44 = some (.getfield 158, 7, 6) := by decide +kernel
theorem vr_80_47 : zrx 80 47 = some (.invokevirtual 251, 14, 60) := by decide +kernel
theorem vr_80_50 : zrx 80 50 = some (.ireturn, 0, 0) := by decide +kernel
theorem vr_92_0 : zrx 92 0 = some (.iload_n 1, 0, 0) := by decide +kernel
theorem vr_92_1 : zrx 92 1 = some (.aload_n 0, 0, 0) := by decide +kernel
theorem vr_92_2 : zrx 92 2 = some (.getfield 135, 13, 3) := by decide +kernel
theorem vr_92_5 : zrx 92 5 = some (.invokestatic 68, 96, 0) := by decide +kernel
theorem vr_92_8 : zrx 92 8 = some (.iload_n 2, 0, 0) := by decide +kernel
theorem vr_92_9 : zrx 92 9 = some (.iconst 4, 0, 0) := by decide +kernel
theorem vr_92_10 : zrx 92 10 = some (.invokestatic 68, 96, 0) := by decide +kernel
theorem vr_92_13 : zrx 92 13 = some (.aload_n 0, 0, 0) := by decide +kernel
theorem vr_92_14 : zrx 92 14 = some (.aload_n 0, 0, 0) := by decide +kernel
theorem vr_92_15 : zrx 92 15 = some (.getfield 18, 13, 6) := by decide +kernel
theorem vr_92_18 : zrx 92 18 = some (.iload_n 2, 0, 0) := by decide +kernel
theorem vr_92_19 : zrx 92 19 = some (.iaload, 0, 0) := by decide +kernel
theorem vr_92_20 : zrx 92 20 = some (.aload_n 0, 0, 0) := by decide +kernel
theorem vr_92_21 : zrx 92 21 = some (.getfield 26, 13, 8) := by decide +kernel
theorem vr_92_24 : zrx 92 24 = some (.iload_n 1, 0, 0) := by decide +kernel
theorem vr_92_25 : zrx 92 25 = some (.aaload, 0, 0) := by decide +kernel
theorem vr_92_26 : zrx 92 26 = some (.invokevirtual 220, 102, 140) := by decide +kernel
theorem vr_92_29 : zrx 92 29 = some (.ireturn, 0, 0) := by decide +kernel
theorem vr_93_0 : zrx 93 0 = some (.iload_n 1, 0, 0) := by decide +kernel
theorem vr_93_1 : zrx 93 1 = some (.aload_n 0, 0, 0) := by decide +kernel
theorem vr_93_2 : zrx 93 2 = some (.getfield 135, 13, 3) := by decide +kernel
theorem vr_93_5 : zrx 93 5 = some (.invokestatic 68, 96, 0) := by decide +kernel
theorem vr_93_8 : zrx 93 8 = some (.iload_n 2, 0, 0) := by decide +kernel
theorem vr_93_9 : zrx 93 9 = some (.aload_n 0, 0, 0) := by decide +kernel
theorem vr_93_10 : zrx 93 10 = some (.getfield 42, 13, 10) := by decide +kernel
theorem vr_93_13 : zrx 93 13 = some (.getfield 165, 5, 2) := by decide +kernel
theorem vr_93_16 : zrx 93 16 = some (.invokestatic 68, 96, 0) := by decide +kernel
theorem vr_93_19 : zrx 93 19 = some (.aload_n 0, 0, 0) := by decide +kernel
theorem vr_93_20 : zrx 93 20 = some (.getfield 26, 13, 8) := by decide +kernel
theorem vr_93_23 : zrx 93 23 = some (.iload_n 1, 0, 0) := by decide +kernel
theorem vr_93_24 : zrx 93 24 = some (.aaload, 0, 0) := by decide +kernel
theorem vr_93_25 : zrx 93 25 = some (.astore_n 3, 0, 0) := by decide +kernel
theorem vr_93_26 : zrx 93 26 = some (.aload_n 0, 0, 0) := by decide +kernel
theorem vr_93_27 : zrx 93 27 = some (.getfield 42, 13, 10) := by decide +kernel
theorem vr_93_30 : zrx 93 30 = some (.aload_n 0, 0, 0) := by decide +kernel
theorem vr_93_31 : zrx 93 31 = some (.getfield 42, 13, 10) := by decide +kernel
theorem vr_93_34 : zrx 93 34 = some (.aload_n 3, 0, 0) := by decide +kernel
theorem vr_93_35 : zrx 93 35 = some (.getfield 158, 7, 6) := by decide +kernel
theorem vr_93_38 : zrx 93 38 = some (.invokevirtual 248, 12, 60) := by decide +kernel
theorem vr_93_41 : zrx 93 41 = some (.iconst 1, 0, 0) := by decide +kernel
theorem vr_93_42 : zrx 93 42 = some (.iload_n 2, 0, 0) := by decide +kernel
theorem vr_93_43 : zrx 93 43 = some (.ishl, 0, 0) := by decide +kernel
theorem vr_93_44 : zrx 93 44 = some (.iconst (-1), 0, 0) := by decide +kernel
theorem vr_93_45 : zrx 93 45 = some (.ixor, 0, 0) := by decide +kernel
theorem vr_93_46 : zrx 93 46 = some (.iand, 0, 0) := by decide +kernel
theorem vr_93_47 : zrx 93 47 = some (.aload_n 3, 0, 0) := by decide +kernel
theorem vr_93_48 : zrx 93 48 = some (.aload_n 3, 0, 0) := by decide +kernel
theorem vr_93_49 : zrx 93 49 = some (.getfield 158, 7, 6) := by decide +kernel
theorem vr_93_52 : zrx 93 52 = some (.invokevirtual 307, 13, 60) := by decide +kernel
theorem vr_93_55 : zrx 93 55 = some (.ireturn, 0, 0) := by decide +kernel
theorem vr_102_0 : zrx 102 0 = some (.aload_n 0, 0, 0) := by decide +kernel
theorem vr_102_1 : zrx 102 1 = some (.aload_n 2, 0, 0) := by decide +kernel
theorem vr_102_2 : zrx 102 2 = some (.aload_n 2, 0, 0) := by decide +kernel
theorem vr_102_3 : zrx 102 3 = some (.getfield 158, 7, 6) := by decide +kernel
theorem vr_102_6 : zrx 102 6 = some (.invokevirtual 227, 101, 140) := by decide +kernel
theorem vr_102_9 : zrx 102 9 = some (.istore_n 3, 0, 0) := by decide +kernel
theorem vr_102_10 : zrx 102 10 = some (.iload_n 1, 0, 0) := by decide +kernel
theorem vr_102_11 : zrx 102 11 = some (.iconst 1, 0, 0) := by decide +kernel
theorem vr_102_12 : zrx 102 12 = some (.if_icmp .ne 8, 0, 0) := by decide +kernel
theorem vr_102_15 : zrx 102 15 = some (.iload_n 3, 0, 0) := by decide +kernel
theorem vr_102_16 : zrx 102 16 = some (.invokestatic 432, 103, 0) := by decide +kernel
theorem vr_102_19 : zrx 102 19 = some (.ireturn, 0, 0) := by decide +kernel
theorem vr_102_20 : zrx 102 20 = some (.iload_n 1, 0, 0) := by decide +kernel
theorem vr_102_21 : zrx 102 21 = some (.iconst 2, 0, 0) := by decide +kernel
theorem vr_102_22 : zrx 102 22 = some (.if_icmp .eq 8, 0, 0) := by decide +kernel
theorem vr_102_25 : zrx 102 25 = some (.iload_n 1, 0, 0) := by decide +kernel
theorem vr_102_26 : zrx 102 26 = some (.iconst 3, 0, 0) := by decide +kernel
theorem vr_102_27 : zrx 102 27 = some (.if_icmp .ne 47, 0, 0) := by decide +kernel
theorem vr_102_30 : zrx 102 30 = some (.aload_n 0, 0, 0) := by decide +kernel
theorem vr_102_31 : zrx 102 31 = some (.getfield 33, 13, 9) := by decide +kernel
theorem vr_102_34 : zrx 102 34 = some (.aload_n 2, 0, 0) := by decide +kernel
theorem vr_102_35 : zrx 102 35 = some (.aload_n 2, 0, 0) := by decide +kernel
theorem vr_102_36 : zrx 102 36 = some (.getfield 158, 7, 6) := by decide +kernel
theorem vr_102_39 : zrx 102 39 = some (.invokevirtual 245, 20, 70) := by decide +kernel
theorem vr_102_42 : zrx 102 42 = some (.istore 4, 0, 0) := by decide +kernel
theorem vr_102_44 : zrx 102 44 = some (.iload 4, 0, 0) := by decide +kernel
theorem vr_102_46 : zrx 102 46 = some (.ifCond .ge 5, 0, 0) := by decide +kernel
theorem vr_102_49 : zrx 102 49 = some (.iload_n 3, 0, 0) := by decide +kernel
theorem vr_102_50 : zrx 102 50 = some (.ireturn, 0, 0) := by decide +kernel
theorem vr_102_51 : zrx 102 51 = some (.iload_n 1, 0, 0) := by decide +kernel
theorem vr_102_52 : zrx 102 52 = some (.iconst 2, 0, 0) := by decide +kernel
theorem vr_102_53 : zrx 102 53 = some (.if_icmp .ne 6, 0, 0) := by decide +kernel
theorem vr_102_56 : zrx 102 56 = some (.iload 4, 0, 0) := by decide +kernel
theorem vr_102_58 : zrx 102 58 = some (.ireturn, 0, 0) := by decide +kernel
theorem vr_102_59 : zrx 102 59 = some (.iload_n 3, 0, 0) := by decide +kernel
theorem vr_102_60 : zrx 102 60 = some (.ifCond .ge 7, 0, 0) := by decide +kernel
theorem vr_102_63 : zrx 102 63 = some (.iload_n 3, 0, 0) := by decide +kernel
theorem vr_102_64 : zrx 102 64 = some (.goto 9, 0, 0) := by decide +kernel
theorem vr_102_67 : zrx 102 67 = some (.iload_n 3, 0, 0) := by decide +kernel
theorem vr_102_68 : zrx 102 68 = some (.iload 4, 0, 0) := by decide +kernel
theorem vr_102_70 : zrx 102 70 = some (.iadd, 0, 0) := by decide +kernel
theorem vr_102_71 : zrx 102 71 = some (.iconst 2, 0, 0) := by decide +kernel
theorem vr_102_72 : zrx 102 72 = some (.idiv, 0, 0) := by decide +kernel
theorem vr_102_73 : zrx 102 73 = some (.ireturn, 0, 0) := by decide +kernel
theorem vr_102_74 : zrx 102 74 = some (.iload_n 3, 0, 0) := by decide +kernel
theorem vr_102_75 : zrx 102 75 = some (.ireturn, 0, 0) := by decide +kernel
theorem vr_103_0 : zrx 103 0 = some (.iload_n 0, 0, 0) := by decide +kernel
theorem vr_103_1 : zrx 103 1 = some (.bipush 50, 0, 0) := by decide +kernel
theorem vr_103_3 : zrx 103 3 = some (.if_icmp .le 13, 0, 0) := by decide +kernel
theorem vr_103_6 : zrx 103 6 = some (.iload_n 0, 0, 0) := by decide +kernel
theorem vr_103_7 : zrx 103 7 = some (.bipush 10, 0, 0) := by decide +kernel
theorem vr_103_9 : zrx 103 9 = some (.iadd, 0, 0) := by decide +kernel
theorem vr_103_10 : zrx 103 10 = some (.bipush 100, 0, 0) := by decide +kernel
theorem vr_103_12 : zrx 103 12 = some (.invokestatic 435, 262, 0) := by decide +kernel
theorem vr_103_15 : zrx 103 15 = some (.ireturn, 0, 0) := by decide +kernel
theorem vr_103_16 : zrx 103 16 = some (.iload_n 0, 0, 0) := by decide +kernel
theorem vr_103_17 : zrx 103 17 = some (.ifCond .lt 20, 0, 0) := by decide +kernel
theorem vr_103_20 : zrx 103 20 = some (.iload_n 0, 0, 0) := by decide +kernel
theorem vr_103_21 : zrx 103 21 = some (.bipush 50, 0, 0) := by decide +kernel
theorem vr_103_23 : zrx 103 23 = some (.if_icmp .ge 14, 0, 0) := by decide +kernel
theorem vr_103_26 : zrx 103 26 = some (.iload_n 0, 0, 0) := by decide +kernel
theorem vr_103_27 : zrx 103 27 = some (.bipush 10, 0, 0) := by decide +kernel
theorem vr_103_29 : zrx 103 29 = some (.isub, 0, 0) := by decide +kernel
theorem vr_103_30 : zrx 103 30 = some (.iconst 0, 0, 0) := by decide +kernel
theorem vr_103_31 : zrx 103 31 = some (.invokestatic 440, 261, 0) := by decide +kernel
theorem vr_103_34 : zrx 103 34 = some (.goto 4, 0, 0) := by decide +kernel
theorem vr_103_37 : zrx 103 37 = some (.iload_n 0, 0, 0) := by decide +kernel
theorem vr_103_38 : zrx 103 38 = some (.ireturn, 0, 0) := by decide +kernel
theorem vr_173_0 : zrx 173 0 = some (.aload_n 0, 0, 0) := by decide +kernel
theorem vr_173_1 : zrx 173 1 = some (.aload_n 1, 0, 0) := by decide +kernel
theorem vr_173_2 : zrx 173 2 = some (.invokevirtual 283, 141, 190) := by decide +kernel
theorem vr_173_5 : zrx 173 5 = some (.istore_n 3, 0, 0) := by decide +kernel
theorem vr_173_6 : zrx 173 6 = some (.aload_n 0, 0, 0) := by decide +kernel
theorem vr_173_7 : zrx 173 7 = some (.aload_n 1, 0, 0) := by decide +kernel
theorem vr_173_8 : zrx 173 8 = some (.invokevirtual 137, 136, 190) := by decide +kernel
theorem vr_173_11 : zrx 173 11 = some (.istore 4, 0, 0) := by decide +kernel
theorem vr_173_13 : zrx 173 13 = some (.aload_n 0, 0, 0) := by decide +kernel
theorem vr_173_14 : zrx 173 14 = some (.getfield 52, 18, 15) := by decide +kernel
theorem vr_173_17 : zrx 173 17 = some (.iload_n 2, 0, 0) := by decide +kernel
theorem vr_173_18 : zrx 173 18 = some (.iaload, 0, 0) := by decide +kernel
theorem vr_173_19 : zrx 173 19 = some (.tableswitch 98 1 3 #[25, 66, 78], 0, 0) := by decide +kernel
theorem vr_173_44 : zrx 173 44 = some (.iload_n 3, 0, 0) := by decide +kernel
theorem vr_173_45 : zrx 173 45 = some (.bipush 50, 0, 0) := by decide +kernel
theorem vr_173_47 : zrx 173 47 = some (.if_icmp .le 15, 0, 0) := by decide +kernel
theorem vr_173_50 : zrx 173 50 = some (.bipush 100, 0, 0) := by decide +kernel
theorem vr_173_52 : zrx 173 52 = some (.iload_n 3, 0, 0) := by decide +kernel
theorem vr_173_53 : zrx 173 53 = some (.bipush 10, 0, 0) := by decide +kernel
theorem vr_173_55 : zrx 173 55 = some (.iadd, 0, 0) := by decide +kernel
theorem vr_173_56 : zrx 173 56 = some (.invokestatic 99, 262, 0) := by decide +kernel
theorem vr_173_59 : zrx 173 59 = some (.goto 25, 0, 0) := by decide +kernel
theorem vr_173_62 : zrx 173 62 = some (.iload_n 3, 0, 0) := by decide +kernel
theorem vr_173_63 : zrx 173 63 = some (.iconst 0, 0, 0) := by decide +kernel
theorem vr_173_64 : zrx 173 64 = some (.bipush 49, 0, 0) := by decide +kernel
theorem vr_173_66 : zrx 173 66 = some (.invokestatic 209, 132, 0) := by decide +kernel
theorem vr_173_69 : zrx 173 69 = some (.ifCond .eq 14, 0, 0) := by decide +kernel
theorem vr_173_72 : zrx 173 72 = some (.iconst 0, 0, 0) := by decide +kernel
theorem vr_173_73 : zrx 173 73 = some (.iload_n 3, 0, 0) := by decide +kernel
theorem vr_173_74 : zrx 173 74 = some (.bipush 10, 0, 0) := by decide +kernel
theorem vr_173_76 : zrx 173 76 = some (.isub, 0, 0) := by decide +kernel
theorem vr_173_77 : zrx 173 77 = some (.invokestatic 105, 261, 0) := by decide +kernel
theorem vr_173_80 : zrx 173 80 = some (.goto 4, 0, 0) := by decide +kernel
theorem vr_173_83 : zrx 173 83 = some (.iload_n 3, 0, 0) := by decide +kernel
theorem vr_173_84 : zrx 173 84 = some (.ireturn, 0, 0) := by decide +kernel
theorem vr_173_85 : zrx 173 85 = some (.iload 4, 0, 0) := by decide +kernel
theorem vr_173_87 : zrx 173 87 = some (.ifCond .lt 8, 0, 0) := by decide +kernel
theorem vr_173_90 : zrx 173 90 = some (.iload 4, 0, 0) := by decide +kernel
theorem vr_173_92 : zrx 173 92 = some (.goto 4, 0, 0) := by decide +kernel
theorem vr_173_95 : zrx 173 95 = some (.iload_n 3, 0, 0) := by decide +kernel
theorem vr_173_96 : zrx 173 96 = some (.ireturn, 0, 0) := by decide +kernel
theorem vr_173_97 : zrx 173 97 = some (.iload 4, 0, 0) := by decide +kernel
theorem vr_173_99 : zrx 173 99 = some (.ifCond .lt 16, 0, 0) := by decide +kernel
theorem vr_173_102 : zrx 173 102 = some (.iload_n 3, 0, 0) := by decide +kernel
theorem vr_173_103 : zrx 173 103 = some (.ifCond .lt 12, 0, 0) := by decide +kernel
theorem vr_173_106 : zrx 173 106 = some (.iload 4, 0, 0) := by decide +kernel
theorem vr_173_108 : zrx 173 108 = some (.iload_n 3, 0, 0) := by decide +kernel
theorem vr_173_109 : zrx 173 109 = some (.iadd, 0, 0) := by decide +kernel
theorem vr_173_110 : zrx 173 110 = some (.iconst 2, 0, 0) := by decide +kernel
theorem vr_173_111 : zrx 173 111 = some (.idiv, 0, 0) := by decide +kernel
theorem vr_173_112 : zrx 173 112 = some (.goto 4, 0, 0) := by decide +kernel
theorem vr_173_115 : zrx 173 115 = some (.iload_n 3, 0, 0) := by decide +kernel
theorem vr_173_116 : zrx 173 116 = some (.ireturn, 0, 0) := by decide +kernel
theorem vr_173_117 : zrx 173 117 = some (.iload_n 3, 0, 0) := by decide +kernel
theorem vr_173_118 : zrx 173 118 = some (.ireturn, 0, 0) := by decide +kernel
theorem vr_224_0 : zrx 224 0 = some (.aload_n 3, 0, 0) := by decide +kernel
theorem vr_224_1 : zrx 224 1 = some (.aload_n 0, 0, 0) := by decide +kernel
theorem vr_224_2 : zrx 224 2 = some (.iload_n 1, 0, 0) := by decide +kernel
theorem vr_224_3 : zrx 224 3 = some (.iload_n 2, 0, 0) := by decide +kernel
theorem vr_224_4 : zrx 224 4 = some (.invokevirtual 75, 73, 140) := by decide +kernel
theorem vr_224_7 : zrx 224 7 = some (.i2l, 0, 0) := by decide +kernel
theorem vr_224_8 : zrx 224 8 = some (.putfield 13, 14, 1000) := by decide +kernel
theorem vr_224_11 : zrx 224 11 = some (.goto 11, 0, 0) := by decide +kernel
theorem vr_224_14 : zrx 224 14 = some (.astore 4, 0, 0) := by decide +kernel
theorem vr_224_16 : zrx 224 16 = some (.iconst 1, 0, 0) := by decide +kernel
theorem vr_224_17 : zrx 224 17 = some (.ireturn, 0, 0) := by decide +kernel
theorem vr_224_18 : zrx 224 18 = some (.astore 4, 0, 0) := by decide +kernel
theorem vr_224_20 : zrx 224 20 = some (.iconst 2, 0, 0) := by decide +kernel
theorem vr_224_21 : zrx 224 21 = some (.ireturn, 0, 0) := by decide +kernel
theorem vr_224_22 : zrx 224 22 = some (.iconst 0, 0, 0) := by decide +kernel
theorem vr_224_23 : zrx 224 23 = some (.ireturn, 0, 0) := by decide +kernel
theorem vr_225_0 : zrx 225 0 = some (.aload_n 2, 0, 0) := by decide +kernel
theorem vr_225_1 : zrx 225 1 = some (.aload_n 0, 0, 0) := by decide +kernel
theorem vr_225_2 : zrx 225 2 = some (.iload_n 1, 0, 0) := by decide +kernel
theorem vr_225_3 : zrx 225 3 = some (.invokevirtual 78, 74, 140) := by decide +kernel
theorem vr_225_6 : zrx 225 6 = some (.i2l, 0, 0) := by decide +kernel
theorem vr_225_7 : zrx 225 7 = some (.putfield 13, 14, 1000) := by decide +kernel
theorem vr_225_10 : zrx 225 10 = some (.goto 9, 0, 0) := by decide +kernel
theorem vr_225_13 : zrx 225 13 = some (.astore_n 3, 0, 0) := by decide +kernel
theorem vr_225_14 : zrx 225 14 = some (.iconst 1, 0, 0) := by decide +kernel
theorem vr_225_15 : zrx 225 15 = some (.ireturn, 0, 0) := by decide +kernel
theorem vr_225_16 : zrx 225 16 = some (.astore_n 3, 0, 0) := by decide +kernel
theorem vr_225_17 : zrx 225 17 = some (.iconst 2, 0, 0) := by decide +kernel
theorem vr_225_18 : zrx 225 18 = some (.ireturn, 0, 0) := by decide +kernel
theorem vr_225_19 : zrx 225 19 = some (.iconst 0, 0, 0) := by decide +kernel
theorem vr_225_20 : zrx 225 20 = some (.ireturn, 0, 0) := by decide +kernel
theorem vr_230_0 : zrx 230 0 = some (.aload_n 3, 0, 0) := by decide +kernel
theorem vr_230_1 : zrx 230 1 = some (.aload_n 0, 0, 0) := by decide +kernel
theorem vr_230_2 : zrx 230 2 = some (.iload_n 1, 0, 0) := by decide +kernel
theorem vr_230_3 : zrx 230 3 = some (.iload_n 2, 0, 0) := by decide +kernel
theorem vr_230_4 : zrx 230 4 = some (.invokevirtual 93, 80, 140) := by decide +kernel
theorem vr_230_7 : zrx 230 7 = some (.i2l, 0, 0) := by decide +kernel
theorem vr_230_8 : zrx 230 8 = some (.putfield 13, 14, 1000) := by decide +kernel
theorem vr_230_11 : zrx 230 11 = some (.goto 7, 0, 0) := by decide +kernel
theorem vr_230_14 : zrx 230 14 = some (.astore 4, 0, 0) := by decide +kernel
theorem vr_230_16 : zrx 230 16 = some (.iconst 1, 0, 0) := by decide +kernel
theorem vr_230_17 : zrx 230 17 = some (.ireturn, 0, 0) := by decide +kernel
theorem vr_230_18 : zrx 230 18 = some (.iconst 0, 0, 0) := by decide +kernel
theorem vr_230_19 : zrx 230 19 = some (.ireturn, 0, 0) := by decide +kernel
theorem vr_241_0 : zrx 241 0 = some (.aload_n 3, 0, 0) := by decide +kernel
theorem vr_241_1 : zrx 241 1 = some (.aload_n 0, 0, 0) := by decide +kernel
theorem vr_241_2 : zrx 241 2 = some (.iload_n 1, 0, 0) := by decide +kernel
theorem vr_241_3 : zrx 241 3 = some (.iload_n 2, 0, 0) := by decide +kernel
theorem vr_241_4 : zrx 241 4 = some (.invokevirtual 134, 92, 140) := by decide +kernel
theorem vr_241_7 : zrx 241 7 = some (.i2l, 0, 0) := by decide +kernel
theorem vr_241_8 : zrx 241 8 = some (.putfield 13, 14, 1000) := by decide +kernel
theorem vr_241_11 : zrx 241 11 = some (.goto 7, 0, 0) := by decide +kernel
theorem vr_241_14 : zrx 241 14 = some (.astore 4, 0, 0) := by decide +kernel
theorem vr_241_16 : zrx 241 16 = some (.iconst 1, 0, 0) := by decide +kernel
theorem vr_241_17 : zrx 241 17 = some (.ireturn, 0, 0) := by decide +kernel
theorem vr_241_18 : zrx 241 18 = some (.iconst 0, 0, 0) := by decide +kernel
theorem vr_241_19 : zrx 241 19 = some (.ireturn, 0, 0) := by decide +kernel
theorem vr_242_0 : zrx 242 0 = some (.aload_n 3, 0, 0) := by decide +kernel
theorem vr_242_1 : zrx 242 1 = some (.aload_n 0, 0, 0) := by decide +kernel
theorem vr_242_2 : zrx 242 2 = some (.iload_n 1, 0, 0) := by decide +kernel
theorem vr_242_3 : zrx 242 3 = some (.iload_n 2, 0, 0) := by decide +kernel
theorem vr_242_4 : zrx 242 4 = some (.invokevirtual 137, 93, 140) := by decide +kernel
theorem vr_242_7 : zrx 242 7 = some (.i2l, 0, 0) := by decide +kernel
theorem vr_242_8 : zrx 242 8 = some (.putfield 13, 14, 1000) := by decide +kernel
theorem vr_242_11 : zrx 242 11 = some (.goto 7, 0, 0) := by decide +kernel
theorem vr_242_14 : zrx 242 14 = some (.astore 4, 0, 0) := by decide +kernel
theorem vr_242_16 : zrx 242 16 = some (.iconst 1, 0, 0) := by decide +kernel
theorem vr_242_17 : zrx 242 17 = some (.ireturn, 0, 0) := by decide +kernel
theorem vr_242_18 : zrx 242 18 = some (.iconst 0, 0, 0) := by decide +kernel
theorem vr_242_19 : zrx 242 19 = some (.ireturn, 0, 0) := by decide +kernel
theorem vh_73_5_0 : zHit (zi 73) 5 0 = none := by decide +kernel
theorem vh_73_10_0 : zHit (zi 73) 10 0 = none := by decide +kernel
theorem vh_73_33_2 : zHit (zi 73) 33 2 = none := by decide +kernel
theorem vh_74_5_0 : zHit (zi 74) 5 0 = none := by decide +kernel
theorem vh_74_28_2 : zHit (zi 74) 28 2 = none := by decide +kernel
theorem vh_80_5_0 : zHit (zi 80) 5 0 = none := by decide +kernel
theorem vh_80_16_0 : zHit (zi 80) 16 0 = none := by decide +kernel
theorem vh_92_5_0 : zHit (zi 92) 5 0 = none := by decide +kernel
theorem vh_92_10_0 : zHit (zi 92) 10 0 = none := by decide +kernel
theorem vh_93_5_0 : zHit (zi 93) 5 0 = none := by decide +kernel
theorem vh_93_16_0 : zHit (zi 93) 16 0 = none := by decide +kernel
theorem vh_224_4_0 : (zHit (zi 224) 4 0).map (fun r => r.2.2.1) = some 14 := by decide +kernel
theorem vh_224_4_2 : (zHit (zi 224) 4 2).map (fun r => r.2.2.1) = some 18 := by decide +kernel
theorem vh_225_3_0 : (zHit (zi 225) 3 0).map (fun r => r.2.2.1) = some 13 := by decide +kernel
theorem vh_225_3_2 : (zHit (zi 225) 3 2).map (fun r => r.2.2.1) = some 16 := by decide +kernel
theorem vh_230_4_0 : (zHit (zi 230) 4 0).map (fun r => r.2.2.1) = some 14 := by decide +kernel
theorem vh_241_4_0 : (zHit (zi 241) 4 0).map (fun r => r.2.2.1) = some 14 := by decide +kernel
theorem vh_242_4_0 : (zHit (zi 242) 4 0).map (fun r => r.2.2.1) = some 14 := by decide +kernel
theorem C_kT (n : Nat) (D : Nat) (d : Int32) (h : List zC) (u : Nat) {cnt cr : Int32} {ex : Nat → Nat → Bool} {gen : Nat → Bool} (kc : kC h cnt cr ex gen) (ci : CI h D) : zL zrx zi n 101 0 [(0, .ref 16), (1, .ref D), (2, .int d)] [] h u (fun o h2 _ => h2 = h ∧ o = .inl (some (.int (kT h cnt cr ex gen D d)))) := by
  obtain ⟨hS, hc, h0, h24, hCl, hE, hO, hO2, hr, r0, r40, hG, hK, hT⟩ := kc
  exact C_byCode n D d h u hS hc h0 h24 hCl hE hO hO2 hr r0 r40 hG hK (tie_r hT) ci
theorem C_kTo (n : Nat) (P : Nat → Bool) (D : Nat) (d : Int32) (h : List zC) (u : Nat) {cnt cr : Int32} {ex : Nat → Nat → Bool} {gen : Nat → Bool} (kc : kC h cnt cr ex gen) (ci : CI h D) : zL zrx zi n 13 0 [(0, .ref 71), (1, .int (bS P cnt.toNatClampNeg)), (2, .ref D), (3, .int d)] [] h u (fun o h2 _ => h2 = h ∧ o = .inl (some (.int (cdC h cnt.toNatClampNeg ex gen P (tieC h cr D d) D)))) := by
  obtain ⟨hS, hc, h0, h24, hCl, hE, hO, hO2, hr, r0, r40, hG, hK, hT⟩ := kc
  exact C_told n P D d h u hS hc h0 h24 hCl hE hO hO2 hr r0 r40 hG hK (tie_r hT) ci
theorem C_kIF (n : Nat) (d : Int32) (h : List zC) (u : Nat) {cnt cr : Int32} {ex : Nat → Nat → Bool} {gen : Nat → Bool} (kc : kC h cnt cr ex gen) : zL zrx zi n 12 0 [(0, .ref 71), (1, .int d)] [] h u (fun o h2 _ => h2 = h ∧ o = .inl (some (.int (bS (foC h d) cnt.toNatClampNeg)))) := by
  obtain ⟨hS, hc, h0, h24, hCl, hE, hO, hO2, hr, r0, r40, hG, hK, hT⟩ := kc
  exact C_inForce n d h u hS hc h0 h24
theorem C_kOne (n : Nat) (P : Nat → Bool) (a D : Nat) (d : Int32) (h : List zC) (u : Nat) {cnt cr : Int32} {ex : Nat → Nat → Bool} {gen : Nat → Bool} (kc : kC h cnt cr ex gen) (ci : CI h D) (ha : a < cnt.toNatClampNeg) : zL zrx zi n 14 0 [(0, .ref 71), (1, .int (Int32.ofNat a)), (2, .int (bS P cnt.toNatClampNeg)), (3, .ref D), (4, .int d)] [] h u (fun o h2 _ => h2 = h ∧ o = .inl (some (.int (tlT cnt.toNatClampNeg ex (fun k => P k && apC h D k) P (clO h) (tieC h cr D d) 25 a (fun _ => false))))) := by
  obtain ⟨hS, hc, h0, h24, hCl, hE, hO, hO2, hr, r0, r40, hG, hK, hT⟩ := kc
  exact C_toldBy n P a D d h u hS hc h0 h24 hCl hE hO hO2 hr r0 r40 hG hK (tie_r hT) ci ha
theorem C_kTie (n : Nat) (q : Nat) (d : Int32) (h : List zC) (u : Nat) {cnt cr : Int32} {ex : Nat → Nat → Bool} {gen : Nat → Bool} (kc : kC h cnt cr ex gen) (ci : CI h q) : zL zrx zi n 20 0 [(0, .ref 28), (1, .ref q), (2, .int d)] [] h u (fun o h2 _ => h2 = h ∧ o = .inl (some (.int (tieC h cr q d)))) := by
  obtain ⟨hS, hc, h0, h24, hCl, hE, hO, hO2, hr, r0, r40, hG, hK, hT⟩ := kc
  exact C_byTie n q d h u hS hr r0 r40 ci
theorem C_str (n : Nat) (x : Int32) (h : List zC) (u : Nat) : zL zrx zi n 103 0 [(0, .int x)] [] h u (fun o h2 _ => h2 = h ∧ o = .inl (some (.int (strT x)))) := by
  refine zSiload (m := 1) (k := 0) vr_103_0 rfl rfl rfl (fun x5666 e5666 => ?_)
  cases e5666
  refine zSp0 (pc' := 3) (st' := .int (50) :: _) vr_103_1 rfl rfl ?_
  refine zSb2 (f := fun x y => decide (x ≤ y)) (off := 13) (t := 16) vr_103_3 rfl rfl rfl (fun x5668 y5668 e5668 f5668 q5668 => ?_) (fun x5668 y5668 e5668 f5668 q5668 => ?_)
  · cases e5668
    cases f5668
    have c5668 := of_decide_eq_true q5668
    refine zSiload (m := 1) (k := 0) vr_103_16 rfl rfl rfl (fun x5669 e5669 => ?_)
    cases e5669
    refine zSb1 (f := fun x => decide (x < 0)) (off := 20) (t := 37) vr_103_17 rfl rfl rfl (fun x5670 e5670 q5670 => ?_) (fun x5670 e5670 q5670 => ?_)
    · cases e5670
      have c5670 := of_decide_eq_true q5670
      refine zSiload (m := 1) (k := 0) vr_103_37 rfl rfl rfl (fun x5671 e5671 => ?_)
      cases e5671
      refine zLiret vr_103_38 rfl (fun x5672 e5672 => ?_)
      cases e5672
      refine ⟨rfl, congrArg (fun z : Int32 => Sum.inl (some (Value.int z))) ?_⟩
      unfold strT
      rw [if_neg (Int32.not_lt.mpr c5668), if_neg (fun z => absurd c5670 (Int32.not_lt.mpr z.1))]
    · cases e5670
      have c5670 := ndc q5670
      refine zSiload (m := 1) (k := 0) vr_103_20 rfl rfl rfl (fun x5673 e5673 => ?_)
      cases e5673
      refine zSp0 (pc' := 23) (st' := .int (50) :: _) vr_103_21 rfl rfl ?_
      refine zSb2 (f := fun x y => decide (y ≤ x)) (off := 14) (t := 37) vr_103_23 rfl rfl rfl (fun x5675 y5675 e5675 f5675 q5675 => ?_) (fun x5675 y5675 e5675 f5675 q5675 => ?_)
      · cases e5675
        cases f5675
        have c5675 := of_decide_eq_true q5675
        refine zSiload (m := 1) (k := 0) vr_103_37 rfl rfl rfl (fun x5676 e5676 => ?_)
        cases e5676
        refine zLiret vr_103_38 rfl (fun x5677 e5677 => ?_)
        cases e5677
        refine ⟨rfl, congrArg (fun z : Int32 => Sum.inl (some (Value.int z))) ?_⟩
        unfold strT
        rw [if_neg (Int32.not_lt.mpr c5668), if_neg (fun z => absurd z.2 (Int32.not_lt.mpr c5675))]
      · cases e5675
        cases f5675
        have c5675 := ndc q5675
        refine zSiload (m := 1) (k := 0) vr_103_26 rfl rfl rfl (fun x5678 e5678 => ?_)
        cases e5678
        refine zSp0 (pc' := 29) (st' := .int (10) :: _) vr_103_27 rfl rfl ?_
        refine zS2 (f := fun x y => .int (x - y)) vr_103_29 rfl rfl (fun x5680 y5680 e5680 f5680 => ?_)
        cases e5680
        cases f5680
        refine zSp0 (pc' := 31) (st' := .int (0) :: _) vr_103_30 rfl rfl ?_
        refine zScall vr_103_31 rfl rfl rfl (fun m5682 _ => C_mxI _ _ _ _ _) (fun v5682 h5682 u5682 q5682 => ?_) (fun E5682 h5682 u5682 q5682 => ?_)
        · obtain ⟨eh5682, z5682⟩ := q5682
          subst eh5682
          cases z5682
          show zL zrx zi _ 103 34 [(0, _)] [_] _ _ _
          refine zSgo (t := 38) vr_103_34 rfl rfl ?_
          refine zLiret vr_103_38 rfl (fun x5684 e5684 => ?_)
          cases e5684
          refine ⟨rfl, congrArg (fun z : Int32 => Sum.inl (some (Value.int z))) ?_⟩
          unfold strT
          rw [if_neg (Int32.not_lt.mpr c5668), if_pos ⟨Int32.not_lt.mp c5670, Int32.not_le.mp c5675⟩]
        · obtain ⟨-, z⟩ := q5682
          cases z
  · cases e5668
    cases f5668
    have c5668 := ndc q5668
    refine zSiload (m := 1) (k := 0) vr_103_6 rfl rfl rfl (fun x5685 e5685 => ?_)
    cases e5685
    refine zSp0 (pc' := 9) (st' := .int (10) :: _) vr_103_7 rfl rfl ?_
    refine zS2 (f := fun x y => .int (x + y)) vr_103_9 rfl rfl (fun x5687 y5687 e5687 f5687 => ?_)
    cases e5687
    cases f5687
    refine zSp0 (pc' := 12) (st' := .int (100) :: _) vr_103_10 rfl rfl ?_
    refine zScall vr_103_12 rfl rfl rfl (fun m5689 _ => C_mnI _ _ _ _ _) (fun v5689 h5689 u5689 q5689 => ?_) (fun E5689 h5689 u5689 q5689 => ?_)
    · obtain ⟨eh5689, z5689⟩ := q5689
      subst eh5689
      cases z5689
      show zL zrx zi _ 103 15 [(0, _)] [_] _ _ _
      refine zLiret vr_103_15 rfl (fun x5690 e5690 => ?_)
      cases e5690
      refine ⟨rfl, congrArg (fun z : Int32 => Sum.inl (some (Value.int z))) ?_⟩
      unfold strT
      rw [if_pos (Int32.not_le.mp c5668)]
    · obtain ⟨-, z⟩ := q5689
      cases z
theorem C_jB (n : Nat) (w : Int32) (D : Nat) (h : List zC) (u : Nat) {cnt cr : Int32} {ex : Nat → Nat → Bool} {gen : Nat → Bool} (kc : kC h cnt cr ex gen) (ci : CI h D) {d : Int32} (hd : gF h D 6 = some (.int d)) : zL zrx zi n 102 0 [(0, .ref 16), (1, .int w), (2, .ref D)] [] h u (fun o h2 _ => h2 = h ∧ o = .inl (some (.int (jdT w (kT h cnt cr ex gen D d) (tieC h cr D d))))) := by
  have hS := kc.1
  refine zSaload (m := 1) (k := 0) vr_102_0 rfl rfl rfl ?_
  refine zSaload (m := 1) (k := 2) vr_102_1 rfl rfl rfl ?_
  refine zSaload (m := 1) (k := 2) vr_102_2 rfl rfl rfl ?_
  refine zLget vr_102_3 rfl (fun p5694 w5694 e5694 t5694 g5694 => ?_)
  cases e5694
  first | (rw [(st_16_9 hS)] at g5694; cases g5694) | (rw [hd] at g5694; cases g5694) | skip
  refine zScall vr_102_6 rfl rfl rfl (fun m5695 _ => C_kT _ _ _ _ _ kc ci) (fun v5695 h5695 u5695 q5695 => ?_) (fun E5695 h5695 u5695 q5695 => ?_)
  · obtain ⟨eh5695, z5695⟩ := q5695
    replace eh5695 := eh5695.symm
    subst eh5695
    cases z5695
    show zL zrx zi _ 102 9 [(0, _), (1, _), (2, _)] [_] _ _ _
    refine zSistore (m := 1) (k := 3) vr_102_9 rfl rfl (fun x5696 e5696 => ?_)
    cases e5696
    show zL zrx zi _ 102 10 [(3, _), (0, _), (1, _), (2, _)] [] _ _ _
    refine zSiload (m := 1) (k := 1) vr_102_10 rfl rfl rfl (fun x5697 e5697 => ?_)
    cases e5697
    refine zSp0 (pc' := 12) (st' := .int (1) :: _) vr_102_11 rfl rfl ?_
    refine zSb2 (f := fun x y => decide (¬ x = y)) (off := 8) (t := 20) vr_102_12 rfl rfl rfl (fun x5699 y5699 e5699 f5699 q5699 => ?_) (fun x5699 y5699 e5699 f5699 q5699 => ?_)
    · cases e5699
      cases f5699
      have c5699 := of_decide_eq_true q5699
      refine zSiload (m := 1) (k := 1) vr_102_20 rfl rfl rfl (fun x5700 e5700 => ?_)
      cases e5700
      refine zSp0 (pc' := 22) (st' := .int (2) :: _) vr_102_21 rfl rfl ?_
      refine zSb2 (f := fun x y => decide (x = y)) (off := 8) (t := 30) vr_102_22 rfl rfl rfl (fun x5702 y5702 e5702 f5702 q5702 => ?_) (fun x5702 y5702 e5702 f5702 q5702 => ?_)
      · cases e5702
        cases f5702
        have c5702 := of_decide_eq_true q5702
        refine zSaload (m := 1) (k := 0) vr_102_30 rfl rfl rfl ?_
        refine zLget vr_102_31 rfl (fun p5704 w5704 e5704 t5704 g5704 => ?_)
        cases e5704
        first | (rw [(st_16_9 hS)] at g5704; cases g5704) | (rw [hd] at g5704; cases g5704) | skip
        refine zSaload (m := 1) (k := 2) vr_102_34 rfl rfl rfl ?_
        refine zSaload (m := 1) (k := 2) vr_102_35 rfl rfl rfl ?_
        refine zLget vr_102_36 rfl (fun p5707 w5707 e5707 t5707 g5707 => ?_)
        cases e5707
        first | (rw [(st_16_9 hS)] at g5707; cases g5707) | (rw [hd] at g5707; cases g5707) | skip
        refine zScall vr_102_39 rfl rfl rfl (fun m5708 _ => C_kTie _ _ _ _ _ kc ci) (fun v5708 h5708 u5708 q5708 => ?_) (fun E5708 h5708 u5708 q5708 => ?_)
        · obtain ⟨eh5708, z5708⟩ := q5708
          replace eh5708 := eh5708.symm
          subst eh5708
          cases z5708
          show zL zrx zi _ 102 42 [(3, _), (0, _), (1, _), (2, _)] [_] _ _ _
          refine zSistore (m := 2) (k := 4) vr_102_42 rfl rfl (fun x5709 e5709 => ?_)
          cases e5709
          show zL zrx zi _ 102 44 [(4, _), (3, _), (0, _), (1, _), (2, _)] [] _ _ _
          refine zSiload (m := 2) (k := 4) vr_102_44 rfl rfl rfl (fun x5710 e5710 => ?_)
          cases e5710
          refine zSb1 (f := fun x => decide (0 ≤ x)) (off := 5) (t := 51) vr_102_46 rfl rfl rfl (fun x5711 e5711 q5711 => ?_) (fun x5711 e5711 q5711 => ?_)
          · cases e5711
            have c5711 := of_decide_eq_true q5711
            refine zSiload (m := 1) (k := 1) vr_102_51 rfl rfl rfl (fun x5712 e5712 => ?_)
            cases e5712
            refine zSp0 (pc' := 53) (st' := .int (2) :: _) vr_102_52 rfl rfl ?_
            refine zSb2 (f := fun x y => decide (¬ x = y)) (off := 6) (t := 59) vr_102_53 rfl rfl rfl (fun x5714 y5714 e5714 f5714 q5714 => ?_) (fun x5714 y5714 e5714 f5714 q5714 => ?_)
            · cases e5714
              cases f5714
              have c5714 := of_decide_eq_true q5714
              refine zSiload (m := 1) (k := 3) vr_102_59 rfl rfl rfl (fun x5715 e5715 => ?_)
              cases e5715
              refine zSb1 (f := fun x => decide (0 ≤ x)) (off := 7) (t := 67) vr_102_60 rfl rfl rfl (fun x5716 e5716 q5716 => ?_) (fun x5716 e5716 q5716 => ?_)
              · cases e5716
                have c5716 := of_decide_eq_true q5716
                refine zSiload (m := 1) (k := 3) vr_102_67 rfl rfl rfl (fun x5717 e5717 => ?_)
                cases e5717
                refine zSiload (m := 2) (k := 4) vr_102_68 rfl rfl rfl (fun x5718 e5718 => ?_)
                cases e5718
                refine zS2 (f := fun x y => .int (x + y)) vr_102_70 rfl rfl (fun x5719 y5719 e5719 f5719 => ?_)
                cases e5719
                cases f5719
                refine zSp0 (pc' := 72) (st' := .int (2) :: _) vr_102_71 rfl rfl ?_
                refine zSdiv vr_102_72 rfl (fun x5721 y5721 e5721 f5721 g5721 => ?_)
                cases e5721
                cases f5721
                refine zLiret vr_102_73 rfl (fun x5722 e5722 => ?_)
                cases e5722
                refine ⟨rfl, congrArg (fun z : Int32 => Sum.inl (some (Value.int z))) ?_⟩
                unfold jdT
                rw [if_neg c5699, if_pos (Or.inl c5702), if_neg (Int32.not_lt.mpr c5711), if_neg c5714, if_neg (Int32.not_lt.mpr c5716)]
              · cases e5716
                have c5716 := ndc q5716
                refine zSiload (m := 1) (k := 3) vr_102_63 rfl rfl rfl (fun x5723 e5723 => ?_)
                cases e5723
                refine zSgo (t := 73) vr_102_64 rfl rfl ?_
                refine zLiret vr_102_73 rfl (fun x5725 e5725 => ?_)
                cases e5725
                refine ⟨rfl, congrArg (fun z : Int32 => Sum.inl (some (Value.int z))) ?_⟩
                unfold jdT
                rw [if_neg c5699, if_pos (Or.inl c5702), if_neg (Int32.not_lt.mpr c5711), if_neg c5714, if_pos (Int32.not_le.mp c5716)]
            · cases e5714
              cases f5714
              have c5714 := ndc q5714
              refine zSiload (m := 2) (k := 4) vr_102_56 rfl rfl rfl (fun x5726 e5726 => ?_)
              cases e5726
              refine zLiret vr_102_58 rfl (fun x5727 e5727 => ?_)
              cases e5727
              refine ⟨rfl, congrArg (fun z : Int32 => Sum.inl (some (Value.int z))) ?_⟩
              unfold jdT
              rw [if_neg c5699, if_pos (Or.inl c5702), if_neg (Int32.not_lt.mpr c5711), if_pos (Decidable.not_not.mp c5714)]
          · cases e5711
            have c5711 := ndc q5711
            refine zSiload (m := 1) (k := 3) vr_102_49 rfl rfl rfl (fun x5728 e5728 => ?_)
            cases e5728
            refine zLiret vr_102_50 rfl (fun x5729 e5729 => ?_)
            cases e5729
            refine ⟨rfl, congrArg (fun z : Int32 => Sum.inl (some (Value.int z))) ?_⟩
            unfold jdT
            rw [if_neg c5699, if_pos (Or.inl c5702), if_pos (Int32.not_le.mp c5711)]
        · obtain ⟨-, z⟩ := q5708
          cases z
      · cases e5702
        cases f5702
        have c5702 := ndc q5702
        refine zSiload (m := 1) (k := 1) vr_102_25 rfl rfl rfl (fun x5730 e5730 => ?_)
        cases e5730
        refine zSp0 (pc' := 27) (st' := .int (3) :: _) vr_102_26 rfl rfl ?_
        refine zSb2 (f := fun x y => decide (¬ x = y)) (off := 47) (t := 74) vr_102_27 rfl rfl rfl (fun x5732 y5732 e5732 f5732 q5732 => ?_) (fun x5732 y5732 e5732 f5732 q5732 => ?_)
        · cases e5732
          cases f5732
          have c5732 := of_decide_eq_true q5732
          refine zSiload (m := 1) (k := 3) vr_102_74 rfl rfl rfl (fun x5733 e5733 => ?_)
          cases e5733
          refine zLiret vr_102_75 rfl (fun x5734 e5734 => ?_)
          cases e5734
          refine ⟨rfl, congrArg (fun z : Int32 => Sum.inl (some (Value.int z))) ?_⟩
          unfold jdT
          rw [if_neg c5699, if_neg (fun z => z.elim c5702 c5732)]
        · cases e5732
          cases f5732
          have c5732 := ndc q5732
          refine zSaload (m := 1) (k := 0) vr_102_30 rfl rfl rfl ?_
          refine zLget vr_102_31 rfl (fun p5736 w5736 e5736 t5736 g5736 => ?_)
          cases e5736
          first | (rw [(st_16_9 hS)] at g5736; cases g5736) | (rw [hd] at g5736; cases g5736) | skip
          refine zSaload (m := 1) (k := 2) vr_102_34 rfl rfl rfl ?_
          refine zSaload (m := 1) (k := 2) vr_102_35 rfl rfl rfl ?_
          refine zLget vr_102_36 rfl (fun p5739 w5739 e5739 t5739 g5739 => ?_)
          cases e5739
          first | (rw [(st_16_9 hS)] at g5739; cases g5739) | (rw [hd] at g5739; cases g5739) | skip
          refine zScall vr_102_39 rfl rfl rfl (fun m5740 _ => C_kTie _ _ _ _ _ kc ci) (fun v5740 h5740 u5740 q5740 => ?_) (fun E5740 h5740 u5740 q5740 => ?_)
          · obtain ⟨eh5740, z5740⟩ := q5740
            replace eh5740 := eh5740.symm
            subst eh5740
            cases z5740
            show zL zrx zi _ 102 42 [(3, _), (0, _), (1, _), (2, _)] [_] _ _ _
            refine zSistore (m := 2) (k := 4) vr_102_42 rfl rfl (fun x5741 e5741 => ?_)
            cases e5741
            show zL zrx zi _ 102 44 [(4, _), (3, _), (0, _), (1, _), (2, _)] [] _ _ _
            refine zSiload (m := 2) (k := 4) vr_102_44 rfl rfl rfl (fun x5742 e5742 => ?_)
            cases e5742
            refine zSb1 (f := fun x => decide (0 ≤ x)) (off := 5) (t := 51) vr_102_46 rfl rfl rfl (fun x5743 e5743 q5743 => ?_) (fun x5743 e5743 q5743 => ?_)
            · cases e5743
              have c5743 := of_decide_eq_true q5743
              refine zSiload (m := 1) (k := 1) vr_102_51 rfl rfl rfl (fun x5744 e5744 => ?_)
              cases e5744
              refine zSp0 (pc' := 53) (st' := .int (2) :: _) vr_102_52 rfl rfl ?_
              refine zSb2 (f := fun x y => decide (¬ x = y)) (off := 6) (t := 59) vr_102_53 rfl rfl rfl (fun x5746 y5746 e5746 f5746 q5746 => ?_) (fun x5746 y5746 e5746 f5746 q5746 => ?_)
              · cases e5746
                cases f5746
                have c5746 := of_decide_eq_true q5746
                refine zSiload (m := 1) (k := 3) vr_102_59 rfl rfl rfl (fun x5747 e5747 => ?_)
                cases e5747
                refine zSb1 (f := fun x => decide (0 ≤ x)) (off := 7) (t := 67) vr_102_60 rfl rfl rfl (fun x5748 e5748 q5748 => ?_) (fun x5748 e5748 q5748 => ?_)
                · cases e5748
                  have c5748 := of_decide_eq_true q5748
                  refine zSiload (m := 1) (k := 3) vr_102_67 rfl rfl rfl (fun x5749 e5749 => ?_)
                  cases e5749
                  refine zSiload (m := 2) (k := 4) vr_102_68 rfl rfl rfl (fun x5750 e5750 => ?_)
                  cases e5750
                  refine zS2 (f := fun x y => .int (x + y)) vr_102_70 rfl rfl (fun x5751 y5751 e5751 f5751 => ?_)
                  cases e5751
                  cases f5751
                  refine zSp0 (pc' := 72) (st' := .int (2) :: _) vr_102_71 rfl rfl ?_
                  refine zSdiv vr_102_72 rfl (fun x5753 y5753 e5753 f5753 g5753 => ?_)
                  cases e5753
                  cases f5753
                  refine zLiret vr_102_73 rfl (fun x5754 e5754 => ?_)
                  cases e5754
                  refine ⟨rfl, congrArg (fun z : Int32 => Sum.inl (some (Value.int z))) ?_⟩
                  unfold jdT
                  rw [if_neg c5699, if_pos (Or.inr (Decidable.not_not.mp c5732)), if_neg (Int32.not_lt.mpr c5743), if_neg c5746, if_neg (Int32.not_lt.mpr c5748)]
                · cases e5748
                  have c5748 := ndc q5748
                  refine zSiload (m := 1) (k := 3) vr_102_63 rfl rfl rfl (fun x5755 e5755 => ?_)
                  cases e5755
                  refine zSgo (t := 73) vr_102_64 rfl rfl ?_
                  refine zLiret vr_102_73 rfl (fun x5757 e5757 => ?_)
                  cases e5757
                  refine ⟨rfl, congrArg (fun z : Int32 => Sum.inl (some (Value.int z))) ?_⟩
                  unfold jdT
                  rw [if_neg c5699, if_pos (Or.inr (Decidable.not_not.mp c5732)), if_neg (Int32.not_lt.mpr c5743), if_neg c5746, if_pos (Int32.not_le.mp c5748)]
              · cases e5746
                cases f5746
                have c5746 := ndc q5746
                refine zSiload (m := 2) (k := 4) vr_102_56 rfl rfl rfl (fun x5758 e5758 => ?_)
                cases e5758
                refine zLiret vr_102_58 rfl (fun x5759 e5759 => ?_)
                cases e5759
                refine ⟨rfl, congrArg (fun z : Int32 => Sum.inl (some (Value.int z))) ?_⟩
                unfold jdT
                rw [if_neg c5699, if_pos (Or.inr (Decidable.not_not.mp c5732)), if_neg (Int32.not_lt.mpr c5743), if_pos (Decidable.not_not.mp c5746)]
            · cases e5743
              have c5743 := ndc q5743
              refine zSiload (m := 1) (k := 3) vr_102_49 rfl rfl rfl (fun x5760 e5760 => ?_)
              cases e5760
              refine zLiret vr_102_50 rfl (fun x5761 e5761 => ?_)
              cases e5761
              refine ⟨rfl, congrArg (fun z : Int32 => Sum.inl (some (Value.int z))) ?_⟩
              unfold jdT
              rw [if_neg c5699, if_pos (Or.inr (Decidable.not_not.mp c5732)), if_pos (Int32.not_le.mp c5743)]
          · obtain ⟨-, z⟩ := q5740
            cases z
    · cases e5699
      cases f5699
      have c5699 := ndc q5699
      refine zSiload (m := 1) (k := 3) vr_102_15 rfl rfl rfl (fun x5762 e5762 => ?_)
      cases e5762
      refine zScall vr_102_16 rfl rfl rfl (fun m5763 _ => C_str _ _ _ _) (fun v5763 h5763 u5763 q5763 => ?_) (fun E5763 h5763 u5763 q5763 => ?_)
      · obtain ⟨eh5763, z5763⟩ := q5763
        replace eh5763 := eh5763.symm
        subst eh5763
        cases z5763
        show zL zrx zi _ 102 19 [(3, _), (0, _), (1, _), (2, _)] [_] _ _ _
        refine zLiret vr_102_19 rfl (fun x5764 e5764 => ?_)
        cases e5764
        refine ⟨rfl, congrArg (fun z : Int32 => Sum.inl (some (Value.int z))) ?_⟩
        unfold jdT
        rw [if_pos (Decidable.not_not.mp c5699)]
      · obtain ⟨-, z⟩ := q5763
        cases z
  · obtain ⟨-, z⟩ := q5695
    cases z
theorem C_mTc (n : Nat) (D : Nat) (h : List zC) (u : Nat) {el : Nat} {cnt : Int32} {Fk : Nat → Nat → Int32} {cr : Int32} {rl : Nat} (mc : mC h el cnt Fk cr rl) (hci : CI h D) {dd : Int32} (hd6 : gF h D 6 = some (.int dd)) : zL zrx zi n 141 0 [(0, .ref 213), (1, .ref D)] [] h u (fun o h2 _ => h2 = h ∧ o = .inl (some (.int (mT h el cnt Fk cr rl D dd (-1))))) := by
  obtain ⟨hL, hs, h0, h24, hA, hS, hrs, hrl, r0, r40, hrq, hO⟩ := mc
  exact C_mcode1 n D h u hL hs h0 h24 hA hS hrs hrl r0 r40 hrq hci hO hd6
theorem C_mTw (n : Nat) (D : Nat) (dd wo : Int32) (h : List zC) (u : Nat) {el : Nat} {cnt : Int32} {Fk : Nat → Nat → Int32} {cr : Int32} {rl : Nat} (mc : mC h el cnt Fk cr rl) (hci : CI h D) : zL zrx zi n 140 0 [(0, .ref 213), (1, .ref D), (2, .int dd), (3, .int wo)] [] h u (fun o h2 _ => h2 = h ∧ o = .inl (some (.int (mT h el cnt Fk cr rl D dd wo)))) := by
  obtain ⟨hL, hs, h0, h24, hA, hS, hrs, hrl, r0, r40, hrq, hO⟩ := mc
  exact C_mcode n D dd wo h u hL hs h0 h24 hA hS hrs hrl r0 r40 hrq hci hO
theorem C_mTo (n : Nat) (D a : Nat) (dd wo : Int32) (h : List zC) (u : Nat) {el : Nat} {cnt : Int32} {Fk : Nat → Nat → Int32} {cr : Int32} {rl : Nat} (mc : mC h el cnt Fk cr rl) (hci : CI h D) (ha : a < cnt.toNatClampNeg) : zL zrx zi n 139 0 [(0, .ref 213), (1, .int (Int32.ofNat a)), (2, .ref D), (3, .int dd), (4, .int wo), (5, .int 0)] [] h u (fun o h2 _ => h2 = h ∧ o = .inl (some (.int (tlM h el cnt.toNatClampNeg Fk D dd wo (tieM h rl cr D) 25 a (fun _ => false))))) := by
  obtain ⟨hL, hs, h0, h24, hA, hS, hrs, hrl, r0, r40, hrq, hO⟩ := mc
  have ck : cnt.toNatClampNeg = cnt.toInt.toNat := rfl
  exact C_mtl hL hs h0 h24 hA hS hrs hrl r0 r40 hrq hci hO _ n (Nat.le_refl _) a 25 (fun _ => false) 0 u ha (fun j _ => tb_zero j) (by omega)
theorem C_mTt (n : Nat) (D : Nat) (h : List zC) (u : Nat) {el : Nat} {cnt : Int32} {Fk : Nat → Nat → Int32} {cr : Int32} {rl : Nat} (mc : mC h el cnt Fk cr rl) (hci : CI h D) : zL zrx zi n 136 0 [(0, .ref 213), (1, .ref D)] [] h u (fun o h2 _ => h2 = h ∧ o = .inl (some (.int (tieM h rl cr D)))) := by
  obtain ⟨hL, hs, h0, h24, hA, hS, hrs, hrl, r0, r40, hrq, hO⟩ := mc
  exact C_mbt n D h u hS hrs hrl r0 r40 hrq hci
theorem C_mjd (n : Nat) (D : Nat) (jv : Int32) (h : List zC) (u : Nat) {el : Nat} {cnt : Int32} {Fk : Nat → Nat → Int32} {cr : Int32} {rl : Nat} (mc : mC h el cnt Fk cr rl) (hci : CI h D) {dd w : Int32} (hd6 : gF h D 6 = some (.int dd)) (hw : gF h 237 jv.toNatClampNeg = some (.int w)) : zL zrx zi n 173 0 [(0, .ref 213), (1, .ref D), (2, .int jv)] [] h u (fun o h2 _ => h2 = h ∧ o = .inl (some (.int (jdT w (mT h el cnt Fk cr rl D dd (-1)) (tieM h rl cr D))))) := by
  have hS := mc.2.2.2.2.2.1
  refine zSaload (m := 1) (k := 0) vr_173_0 rfl rfl rfl ?_
  refine zSaload (m := 1) (k := 1) vr_173_1 rfl rfl rfl ?_
  refine zScall vr_173_2 rfl rfl rfl (fun m5767 _ => C_mTc _ _ _ _ mc hci hd6) (fun v5767 h5767 u5767 q5767 => ?_) (fun E5767 h5767 u5767 q5767 => ?_)
  · obtain ⟨eh5767, z5767⟩ := q5767
    replace eh5767 := eh5767.symm
    subst eh5767
    cases z5767
    show zL zrx zi _ 173 5 [(0, _), (1, _), (2, _)] [_] _ _ _
    refine zSistore (m := 1) (k := 3) vr_173_5 rfl rfl (fun x5768 e5768 => ?_)
    cases e5768
    show zL zrx zi _ 173 6 [(3, _), (0, _), (1, _), (2, _)] [] _ _ _
    refine zSaload (m := 1) (k := 0) vr_173_6 rfl rfl rfl ?_
    refine zSaload (m := 1) (k := 1) vr_173_7 rfl rfl rfl ?_
    refine zScall vr_173_8 rfl rfl rfl (fun m5771 _ => C_mTt _ _ _ _ mc hci) (fun v5771 h5771 u5771 q5771 => ?_) (fun E5771 h5771 u5771 q5771 => ?_)
    · obtain ⟨eh5771, z5771⟩ := q5771
      replace eh5771 := eh5771.symm
      subst eh5771
      cases z5771
      show zL zrx zi _ 173 11 [(3, _), (0, _), (1, _), (2, _)] [_] _ _ _
      refine zSistore (m := 2) (k := 4) vr_173_11 rfl rfl (fun x5772 e5772 => ?_)
      cases e5772
      show zL zrx zi _ 173 13 [(4, _), (3, _), (0, _), (1, _), (2, _)] [] _ _ _
      refine zSaload (m := 1) (k := 0) vr_173_13 rfl rfl rfl ?_
      refine zLget vr_173_14 rfl (fun p5774 w5774 e5774 t5774 g5774 => ?_)
      cases e5774
      first | (rw [(st_213_15' hS)] at g5774; cases g5774) | (rw [hw] at g5774; cases g5774) | skip
      refine zSiload (m := 1) (k := 2) vr_173_17 rfl rfl rfl (fun x5775 e5775 => ?_)
      cases e5775
      refine zLiald vr_173_18 rfl (fun p5776 x5776 w5776 e5776 f5776 c5776 t5776 g5776 => ?_)
      cases e5776
      cases f5776
      first | (rw [(st_213_15' hS)] at g5776; cases g5776) | (rw [hw] at g5776; cases g5776) | skip
      refine zLsw vr_173_19 rfl (fun x5777 e5777 q5777 => ?_) (fun x5777 o5777 e5777 l5777 m5777 q5777 => ?_)
      · cases e5777
        show zL zrx zi _ 173 117 _ _ _ _ _
        refine zSiload (m := 1) (k := 3) vr_173_117 rfl rfl rfl (fun x5778 e5778 => ?_)
        cases e5778
        refine zLiret vr_173_118 rfl (fun x5779 e5779 => ?_)
        cases e5779
        have n : ¬ w = 1 ∧ ¬ w = 2 ∧ ¬ w = 3 := by
          refine ⟨fun z => ?_, fun z => ?_, fun z => ?_⟩ <;> (rw [z] at q5777; rcases q5777 with y | y <;> exact absurd y (by decide))
        refine ⟨rfl, congrArg (fun z : Int32 => Sum.inl (some (Value.int z))) ?_⟩
        unfold jdT
        rw [if_neg n.1, if_neg (fun z => z.elim n.2.1 n.2.2)]
      · cases e5777
        have hx5777 : w.toInt = 1 ∨ w.toInt = 2 ∨ w.toInt = 3 := by omega
        rcases hx5777 with w5777 | w5777 | w5777
        · rw [w5777] at q5777
          cases (show (some (25) : Option Int) = some o5777 from q5777)
          show zL zrx zi _ 173 44 _ _ _ _ _
          refine zSiload (m := 1) (k := 3) vr_173_44 rfl rfl rfl (fun x5780 e5780 => ?_)
          cases e5780
          refine zSp0 (pc' := 47) (st' := .int (50) :: _) vr_173_45 rfl rfl ?_
          refine zSb2 (f := fun x y => decide (x ≤ y)) (off := 15) (t := 62) vr_173_47 rfl rfl rfl (fun x5782 y5782 e5782 f5782 q5782 => ?_) (fun x5782 y5782 e5782 f5782 q5782 => ?_)
          · cases e5782
            cases f5782
            have c5782 := of_decide_eq_true q5782
            refine zSiload (m := 1) (k := 3) vr_173_62 rfl rfl rfl (fun x5783 e5783 => ?_)
            cases e5783
            refine zSp0 (pc' := 64) (st' := .int (0) :: _) vr_173_63 rfl rfl ?_
            refine zSp0 (pc' := 66) (st' := .int (49) :: _) vr_173_64 rfl rfl ?_
            refine zScall vr_173_66 rfl rfl rfl (fun m5786 _ => C_in _ _ _ _ _ _) (fun v5786 h5786 u5786 q5786 => ?_) (fun E5786 h5786 u5786 q5786 => ?_)
            · obtain ⟨eh5786, z5786⟩ := q5786
              replace eh5786 := eh5786.symm
              subst eh5786
              cases z5786
              show zL zrx zi _ 173 69 [(4, _), (3, _), (0, _), (1, _), (2, _)] [_] _ _ _
              refine zSb1 (f := fun x => decide (x = 0)) (off := 14) (t := 83) vr_173_69 rfl rfl rfl (fun x5787 e5787 q5787 => ?_) (fun x5787 e5787 q5787 => ?_)
              · cases e5787
                have c5787 := of_decide_eq_true q5787
                refine zSiload (m := 1) (k := 3) vr_173_83 rfl rfl rfl (fun x5788 e5788 => ?_)
                cases e5788
                refine zLiret vr_173_84 rfl (fun x5789 e5789 => ?_)
                cases e5789
                have ew : w = 1 := Int32.toInt_inj.mp w5777
                refine ⟨rfl, congrArg (fun z : Int32 => Sum.inl (some (Value.int z))) ?_⟩
                unfold jdT
                unfold strT
                rw [if_pos ew, if_neg (Int32.not_lt.mpr c5782), if_neg (fun z => inB_n c5787 ⟨by have := i32_le.mp z.1; exact this, by have := i32_lt.mp z.2; rw [z50] at this; rw [z49]; omega⟩)]
              · cases e5787
                have c5787 := ndc q5787
                refine zSp0 (pc' := 73) (st' := .int (0) :: _) vr_173_72 rfl rfl ?_
                refine zSiload (m := 1) (k := 3) vr_173_73 rfl rfl rfl (fun x5791 e5791 => ?_)
                cases e5791
                refine zSp0 (pc' := 76) (st' := .int (10) :: _) vr_173_74 rfl rfl ?_
                refine zS2 (f := fun x y => .int (x - y)) vr_173_76 rfl rfl (fun x5793 y5793 e5793 f5793 => ?_)
                cases e5793
                cases f5793
                refine zScall vr_173_77 rfl rfl rfl (fun m5794 _ => C_mxI _ _ _ _ _) (fun v5794 h5794 u5794 q5794 => ?_) (fun E5794 h5794 u5794 q5794 => ?_)
                · obtain ⟨eh5794, z5794⟩ := q5794
                  subst eh5794
                  cases z5794
                  show zL zrx zi _ 173 80 [(4, _), (3, _), (0, _), (1, _), (2, _)] [_] _ _ _
                  refine zSgo (t := 84) vr_173_80 rfl rfl ?_
                  refine zLiret vr_173_84 rfl (fun x5796 e5796 => ?_)
                  cases e5796
                  have ew : w = 1 := Int32.toInt_inj.mp w5777
                  refine ⟨rfl, congrArg (fun z : Int32 => Sum.inl (some (Value.int z))) ?_⟩
                  unfold jdT
                  unfold strT
                  obtain ⟨y1, y2⟩ := inB_y c5787
                  rw [z49] at y2
                  rw [if_pos ew, if_neg (Int32.not_lt.mpr c5782), if_pos ⟨i32_le.mpr y1, i32_lt.mpr (by rw [z50]; omega)⟩, mxI_comm]
                · obtain ⟨-, z⟩ := q5794
                  cases z
            · obtain ⟨-, z⟩ := q5786
              cases z
          · cases e5782
            cases f5782
            have c5782 := ndc q5782
            refine zSp0 (pc' := 52) (st' := .int (100) :: _) vr_173_50 rfl rfl ?_
            refine zSiload (m := 1) (k := 3) vr_173_52 rfl rfl rfl (fun x5798 e5798 => ?_)
            cases e5798
            refine zSp0 (pc' := 55) (st' := .int (10) :: _) vr_173_53 rfl rfl ?_
            refine zS2 (f := fun x y => .int (x + y)) vr_173_55 rfl rfl (fun x5800 y5800 e5800 f5800 => ?_)
            cases e5800
            cases f5800
            refine zScall vr_173_56 rfl rfl rfl (fun m5801 _ => C_mnI _ _ _ _ _) (fun v5801 h5801 u5801 q5801 => ?_) (fun E5801 h5801 u5801 q5801 => ?_)
            · obtain ⟨eh5801, z5801⟩ := q5801
              subst eh5801
              cases z5801
              show zL zrx zi _ 173 59 [(4, _), (3, _), (0, _), (1, _), (2, _)] [_] _ _ _
              refine zSgo (t := 84) vr_173_59 rfl rfl ?_
              refine zLiret vr_173_84 rfl (fun x5803 e5803 => ?_)
              cases e5803
              have ew : w = 1 := Int32.toInt_inj.mp w5777
              refine ⟨rfl, congrArg (fun z : Int32 => Sum.inl (some (Value.int z))) ?_⟩
              unfold jdT
              unfold strT
              rw [if_pos ew, if_pos (Int32.not_le.mp c5782), mnI_comm]
            · obtain ⟨-, z⟩ := q5801
              cases z
        · rw [w5777] at q5777
          cases (show (some (66) : Option Int) = some o5777 from q5777)
          show zL zrx zi _ 173 85 _ _ _ _ _
          refine zSiload (m := 2) (k := 4) vr_173_85 rfl rfl rfl (fun x5804 e5804 => ?_)
          cases e5804
          refine zSb1 (f := fun x => decide (x < 0)) (off := 8) (t := 95) vr_173_87 rfl rfl rfl (fun x5805 e5805 q5805 => ?_) (fun x5805 e5805 q5805 => ?_)
          · cases e5805
            have c5805 := of_decide_eq_true q5805
            refine zSiload (m := 1) (k := 3) vr_173_95 rfl rfl rfl (fun x5806 e5806 => ?_)
            cases e5806
            refine zLiret vr_173_96 rfl (fun x5807 e5807 => ?_)
            cases e5807
            have ew : w = 2 := Int32.toInt_inj.mp w5777
            refine ⟨rfl, congrArg (fun z : Int32 => Sum.inl (some (Value.int z))) ?_⟩
            unfold jdT
            rw [if_neg (by rw [ew]; decide), if_pos (Or.inl ew), if_pos c5805]
          · cases e5805
            have c5805 := ndc q5805
            refine zSiload (m := 2) (k := 4) vr_173_90 rfl rfl rfl (fun x5808 e5808 => ?_)
            cases e5808
            refine zSgo (t := 96) vr_173_92 rfl rfl ?_
            refine zLiret vr_173_96 rfl (fun x5810 e5810 => ?_)
            cases e5810
            have ew : w = 2 := Int32.toInt_inj.mp w5777
            refine ⟨rfl, congrArg (fun z : Int32 => Sum.inl (some (Value.int z))) ?_⟩
            unfold jdT
            rw [if_neg (by rw [ew]; decide), if_pos (Or.inl ew), if_neg c5805, if_pos ew]
        · rw [w5777] at q5777
          cases (show (some (78) : Option Int) = some o5777 from q5777)
          show zL zrx zi _ 173 97 _ _ _ _ _
          refine zSiload (m := 2) (k := 4) vr_173_97 rfl rfl rfl (fun x5811 e5811 => ?_)
          cases e5811
          refine zSb1 (f := fun x => decide (x < 0)) (off := 16) (t := 115) vr_173_99 rfl rfl rfl (fun x5812 e5812 q5812 => ?_) (fun x5812 e5812 q5812 => ?_)
          · cases e5812
            have c5812 := of_decide_eq_true q5812
            refine zSiload (m := 1) (k := 3) vr_173_115 rfl rfl rfl (fun x5813 e5813 => ?_)
            cases e5813
            refine zLiret vr_173_116 rfl (fun x5814 e5814 => ?_)
            cases e5814
            have ew : w = 3 := Int32.toInt_inj.mp w5777
            refine ⟨rfl, congrArg (fun z : Int32 => Sum.inl (some (Value.int z))) ?_⟩
            unfold jdT
            rw [if_neg (by rw [ew]; decide), if_pos (Or.inr ew), if_pos c5812]
          · cases e5812
            have c5812 := ndc q5812
            refine zSiload (m := 1) (k := 3) vr_173_102 rfl rfl rfl (fun x5815 e5815 => ?_)
            cases e5815
            refine zSb1 (f := fun x => decide (x < 0)) (off := 12) (t := 115) vr_173_103 rfl rfl rfl (fun x5816 e5816 q5816 => ?_) (fun x5816 e5816 q5816 => ?_)
            · cases e5816
              have c5816 := of_decide_eq_true q5816
              refine zSiload (m := 1) (k := 3) vr_173_115 rfl rfl rfl (fun x5817 e5817 => ?_)
              cases e5817
              refine zLiret vr_173_116 rfl (fun x5818 e5818 => ?_)
              cases e5818
              have ew : w = 3 := Int32.toInt_inj.mp w5777
              refine ⟨rfl, congrArg (fun z : Int32 => Sum.inl (some (Value.int z))) ?_⟩
              unfold jdT
              rw [if_neg (by rw [ew]; decide), if_pos (Or.inr ew), if_neg c5812, if_neg (by rw [ew]; decide), if_pos c5816]
            · cases e5816
              have c5816 := ndc q5816
              refine zSiload (m := 2) (k := 4) vr_173_106 rfl rfl rfl (fun x5819 e5819 => ?_)
              cases e5819
              refine zSiload (m := 1) (k := 3) vr_173_108 rfl rfl rfl (fun x5820 e5820 => ?_)
              cases e5820
              refine zS2 (f := fun x y => .int (x + y)) vr_173_109 rfl rfl (fun x5821 y5821 e5821 f5821 => ?_)
              cases e5821
              cases f5821
              refine zSp0 (pc' := 111) (st' := .int (2) :: _) vr_173_110 rfl rfl ?_
              refine zSdiv vr_173_111 rfl (fun x5823 y5823 e5823 f5823 g5823 => ?_)
              cases e5823
              cases f5823
              refine zSgo (t := 116) vr_173_112 rfl rfl ?_
              refine zLiret vr_173_116 rfl (fun x5825 e5825 => ?_)
              cases e5825
              have ew : w = 3 := Int32.toInt_inj.mp w5777
              refine ⟨rfl, congrArg (fun z : Int32 => Sum.inl (some (Value.int z))) ?_⟩
              unfold jdT
              rw [if_neg (by rw [ew]; decide), if_pos (Or.inr ew), if_neg c5812, if_neg (by rw [ew]; decide), if_neg c5816, Int32.add_comm]
    · obtain ⟨-, z⟩ := q5771
      cases z
  · obtain ⟨-, z⟩ := q5767
    cases z
theorem C_tells (n : Nat) (x y : Int32) (h : List zC) (u : Nat) {cnt cr : Int32} {ex : Nat → Nat → Bool} {gen : Nat → Bool} (kc : kC h cnt cr ex gen) {cc : Int32} (hcc : gF h 16 3 = some (.int cc)) (c24 : cc.toInt ≤ 24) (hcd : ∀ k, k < cc.toNatClampNeg → CI h (189 + k)) : zL zrx zi n 80 0 [(0, .ref 16), (1, .int x), (2, .int y)] [] h u (fun o h2 _ => match o with
  | .inl v => h2 = h ∧ (iN cc.toInt x ∧ iN cnt.toInt y) ∧ v = some (.int (tlT cnt.toNatClampNeg ex (fun k => foC h (iv h (189 + x.toNatClampNeg) 6) k && apC h (189 + x.toNatClampNeg) k) (foC h (iv h (189 + x.toNatClampNeg) 6)) (clO h) (tieC h cr (189 + x.toNatClampNeg) (iv h (189 + x.toNatClampNeg) 6)) 25 y.toNatClampNeg (fun _ => false)))
  | .inr E => hExt h h2 ∧ E = 0 ∧ ¬ (iN cc.toInt x ∧ iN cnt.toInt y)) := by
  have hcn := kc.2.1
  refine zSiload (m := 1) (k := 1) vr_80_0 rfl rfl rfl (fun x5826 e5826 => ?_)
  cases e5826
  refine zSaload (m := 1) (k := 0) vr_80_1 rfl rfl rfl ?_
  refine zLget vr_80_2 rfl (fun p5828 w5828 e5828 t5828 g5828 => ?_)
  cases e5828
  first | (rw [hcc] at g5828; cases g5828) | (rw [(st_16_8 kc.1)] at g5828; cases g5828) | (rw [hd] at g5828; cases g5828) | (rw [(st_16_10 kc.1)] at g5828; cases g5828) | (rw [hcn] at g5828; cases g5828) | (rw [(st_case hS n24)] at g5828; cases g5828) | skip
  refine zScall vr_80_5 rfl rfl rfl (fun m5829 _ => C_num6 _ _ _ _ (m := cc.toInt) rfl) (fun v5829 h5829 u5829 q5829 => ?_) (fun E5829 h5829 u5829 q5829 => ?_)
  · obtain ⟨eh5829, rfl, r1⟩ := q5829
    replace eh5829 := eh5829.symm
    subst eh5829
    show zL zrx zi _ 80 8 [(0, _), (1, _), (2, _)] [] _ _ _
    refine zSiload (m := 1) (k := 2) vr_80_8 rfl rfl rfl (fun x5830 e5830 => ?_)
    cases e5830
    refine zSaload (m := 1) (k := 0) vr_80_9 rfl rfl rfl ?_
    refine zLget vr_80_10 rfl (fun p5832 w5832 e5832 t5832 g5832 => ?_)
    cases e5832
    first | (rw [hcc] at g5832; cases g5832) | (rw [(st_16_8 kc.1)] at g5832; cases g5832) | (rw [hd] at g5832; cases g5832) | (rw [(st_16_10 kc.1)] at g5832; cases g5832) | (rw [hcn] at g5832; cases g5832) | (rw [(st_case hS n24)] at g5832; cases g5832) | skip
    refine zLget vr_80_13 rfl (fun p5833 w5833 e5833 t5833 g5833 => ?_)
    cases e5833
    first | (rw [hcc] at g5833; cases g5833) | (rw [(st_16_8 kc.1)] at g5833; cases g5833) | (rw [hd] at g5833; cases g5833) | (rw [(st_16_10 kc.1)] at g5833; cases g5833) | (rw [hcn] at g5833; cases g5833) | (rw [(st_case hS n24)] at g5833; cases g5833) | skip
    refine zScall vr_80_16 rfl rfl rfl (fun m5834 _ => C_num6 _ _ _ _ (m := cnt.toInt) rfl) (fun v5834 h5834 u5834 q5834 => ?_) (fun E5834 h5834 u5834 q5834 => ?_)
    · obtain ⟨eh5834, rfl, r2⟩ := q5834
      replace eh5834 := eh5834.symm
      subst eh5834
      show zL zrx zi _ 80 19 [(0, _), (1, _), (2, _)] [] _ _ _
      have n24 := n24c r1 c24
      have ci := hcd x.toNatClampNeg (by
        obtain ⟨a1, a2⟩ := r1
        show x.toInt.toNat < cc.toInt.toNat
        omega)
      obtain ⟨d, hd⟩ := ci 6 (by omega)
      have hS := kc.1
      have ed : iv h (189 + x.toNatClampNeg) 6 = d := iv_of hd
      have ey : y = Int32.ofNat y.toNatClampNeg := ofn_nat r2.1
      have yl : y.toNatClampNeg < cnt.toNatClampNeg := iN_cc kc.2.2.1 r2
      refine zSaload (m := 1) (k := 0) vr_80_19 rfl rfl rfl ?_
      refine zLget vr_80_20 rfl (fun p5836 w5836 e5836 t5836 g5836 => ?_)
      cases e5836
      first | (rw [hcc] at g5836; cases g5836) | (rw [(st_16_8 kc.1)] at g5836; cases g5836) | (rw [hd] at g5836; cases g5836) | (rw [(st_16_10 kc.1)] at g5836; cases g5836) | (rw [hcn] at g5836; cases g5836) | (rw [(st_case hS n24)] at g5836; cases g5836) | skip
      refine zSiload (m := 1) (k := 1) vr_80_23 rfl rfl rfl (fun x5837 e5837 => ?_)
      cases e5837
      refine zLaald vr_80_24 rfl (fun p5838 x5838 w5838 e5838 f5838 c5838 t5838 g5838 => ?_)
      cases e5838
      cases f5838
      first | (rw [hcc] at g5838; cases g5838) | (rw [(st_16_8 kc.1)] at g5838; cases g5838) | (rw [hd] at g5838; cases g5838) | (rw [(st_16_10 kc.1)] at g5838; cases g5838) | (rw [hcn] at g5838; cases g5838) | (rw [(st_case hS n24)] at g5838; cases g5838) | skip
      refine zSastore (m := 1) (k := 3) vr_80_25 rfl rfl ?_
      show zL zrx zi _ 80 26 [(3, _), (0, _), (1, _), (2, _)] [] _ _ _
      refine zSaload (m := 1) (k := 0) vr_80_26 rfl rfl rfl ?_
      refine zLget vr_80_27 rfl (fun p5841 w5841 e5841 t5841 g5841 => ?_)
      cases e5841
      first | (rw [hcc] at g5841; cases g5841) | (rw [(st_16_8 kc.1)] at g5841; cases g5841) | (rw [hd] at g5841; cases g5841) | (rw [(st_16_10 kc.1)] at g5841; cases g5841) | (rw [hcn] at g5841; cases g5841) | (rw [(st_case hS n24)] at g5841; cases g5841) | skip
      refine zSiload (m := 1) (k := 2) vr_80_30 rfl rfl rfl (fun x5842 e5842 => ?_)
      cases e5842
      rw [ey]
      refine zSaload (m := 1) (k := 0) vr_80_31 rfl rfl rfl ?_
      refine zLget vr_80_32 rfl (fun p5844 w5844 e5844 t5844 g5844 => ?_)
      cases e5844
      first | (rw [hcc] at g5844; cases g5844) | (rw [(st_16_8 kc.1)] at g5844; cases g5844) | (rw [hd] at g5844; cases g5844) | (rw [(st_16_10 kc.1)] at g5844; cases g5844) | (rw [hcn] at g5844; cases g5844) | (rw [(st_case hS n24)] at g5844; cases g5844) | skip
      refine zSaload (m := 1) (k := 3) vr_80_35 rfl rfl rfl ?_
      refine zLget vr_80_36 rfl (fun p5846 w5846 e5846 t5846 g5846 => ?_)
      cases e5846
      first | (rw [hcc] at g5846; cases g5846) | (rw [(st_16_8 kc.1)] at g5846; cases g5846) | (rw [hd] at g5846; cases g5846) | (rw [(st_16_10 kc.1)] at g5846; cases g5846) | (rw [hcn] at g5846; cases g5846) | (rw [(st_case hS n24)] at g5846; cases g5846) | skip
      refine zScall vr_80_39 rfl rfl rfl (fun m5847 _ => C_kIF _ _ _ _ kc) (fun v5847 h5847 u5847 q5847 => ?_) (fun E5847 h5847 u5847 q5847 => ?_)
      · obtain ⟨eh5847, z5847⟩ := q5847
        replace eh5847 := eh5847.symm
        subst eh5847
        cases z5847
        show zL zrx zi _ 80 42 [(3, _), (0, _), (1, _), (2, _)] [_, _, _] _ _ _
        refine zSaload (m := 1) (k := 3) vr_80_42 rfl rfl rfl ?_
        refine zSaload (m := 1) (k := 3) vr_80_43 rfl rfl rfl ?_
        refine zLget vr_80_44 rfl (fun p5850 w5850 e5850 t5850 g5850 => ?_)
        cases e5850
        first | (rw [hcc] at g5850; cases g5850) | (rw [(st_16_8 kc.1)] at g5850; cases g5850) | (rw [hd] at g5850; cases g5850) | (rw [(st_16_10 kc.1)] at g5850; cases g5850) | (rw [hcn] at g5850; cases g5850) | (rw [(st_case hS n24)] at g5850; cases g5850) | skip
        refine zScall vr_80_47 rfl rfl rfl (fun m5851 _ => C_kOne _ _ _ _ _ _ _ kc ci yl) (fun v5851 h5851 u5851 q5851 => ?_) (fun E5851 h5851 u5851 q5851 => ?_)
        · obtain ⟨eh5851, z5851⟩ := q5851
          replace eh5851 := eh5851.symm
          subst eh5851
          cases z5851
          show zL zrx zi _ 80 50 [(3, _), (0, _), (1, _), (2, _)] [_] _ _ _
          refine zLiret vr_80_50 rfl (fun x5852 e5852 => ?_)
          cases e5852
          rw [← ey]
          exact ⟨rfl, ⟨r1, r2⟩, by rw [ed]⟩
        · obtain ⟨-, z⟩ := q5851
          cases z
      · obtain ⟨-, z⟩ := q5847
        cases z
    · obtain ⟨rfl, q1, q2⟩ := q5834
      rw [zCat_no vh_80_16_0]
      exact ⟨q2, rfl, fun z => q1 z.2⟩
  · obtain ⟨rfl, q1, q2⟩ := q5829
    rw [zCat_no vh_80_5_0]
    exact ⟨q2, rfl, fun z => q1 z.1⟩
abbrev Q_Ltells (ex : Nat → Nat → Bool) (gen : Nat → Bool) (cnt cr cc : Int32) (x y : Int32) (h : List zC) : zK := fun o h2 _ => ∃ k : Int32, o = .inl (some (.int k)) ∧
  ((k = 0 ∧ (iN cc.toInt x ∧ iN cnt.toInt y) ∧ hPut h h2 238 0 (.long (tlT cnt.toNatClampNeg ex (fun k => foC h (iv h (189 + x.toNatClampNeg) 6) k && apC h (189 + x.toNatClampNeg) k) (foC h (iv h (189 + x.toNatClampNeg) 6)) (clO h) (tieC h cr (189 + x.toNatClampNeg) (iv h (189 + x.toNatClampNeg) 6)) 25 y.toNatClampNeg (fun _ => false)).toInt64)) ∨ (k = 1 ∧ ¬ (iN cc.toInt x ∧ iN cnt.toInt y) ∧ hExt h h2))
theorem C_Ltells (n : Nat) (x y : Int32) (h : List zC) (u : Nat) {cnt cr : Int32} {ex : Nat → Nat → Bool} {gen : Nat → Bool} (kc : kC h cnt cr ex gen) {cc : Int32} (hcc : gF h 16 3 = some (.int cc)) (c24 : cc.toInt ≤ 24) (hcd : ∀ k, k < cc.toNatClampNeg → CI h (189 + k)) : zL zrx zi n 230 0 [(0, .ref 16), (1, .int x), (2, .int y), (3, .ref 238)] [] h u (Q_Ltells ex gen cnt cr cc x y h) := by
  refine zSaload (m := 1) (k := 3) vr_230_0 rfl rfl rfl ?_
  refine zSaload (m := 1) (k := 0) vr_230_1 rfl rfl rfl ?_
  refine zSiload (m := 1) (k := 1) vr_230_2 rfl rfl rfl (fun x5855 e5855 => ?_)
  cases e5855
  refine zSiload (m := 1) (k := 2) vr_230_3 rfl rfl rfl (fun x5856 e5856 => ?_)
  cases e5856
  refine zScall vr_230_4 rfl rfl rfl (fun m5857 _ => C_tells _ _ _ _ _ kc hcc c24 hcd) (fun v5857 h5857 u5857 q5857 => ?_) (fun E5857 h5857 u5857 q5857 => ?_)
  · obtain ⟨eh5857, k1, z5857⟩ := q5857
    replace eh5857 := eh5857.symm
    subst eh5857
    cases z5857
    show zL zrx zi _ 230 7 [(0, _), (1, _), (2, _), (3, _)] [_, _] _ _ _
    refine zS1 (f := fun x => .long x.toInt64) vr_230_7 rfl rfl (fun x5858 e5858 => ?_)
    cases e5858
    refine zLput vr_230_8 rfl (fun p5859 k5859 e5859 t5859 g5859 => ?_)
    cases e5859
    have gP := g5859
    refine zSgo (t := 18) vr_230_11 rfl rfl ?_
    refine zSp0 (pc' := 19) (st' := .int (0) :: _) vr_230_18 rfl rfl ?_
    refine zLiret vr_230_19 rfl (fun x5862 e5862 => ?_)
    cases e5862
    exact ⟨_, rfl, Or.inl ⟨rfl, k1, gP⟩⟩
  · obtain ⟨q1, rfl, z⟩ := q5857
    rw [zCat_hit (k := 4) (m := 2) vh_230_4_0 vr_230_14 rfl (by decide)]
    show zL zrx zi _ 230 16 [(0, _), (1, _), (2, _), (3, _)] [] _ _ _
    refine zSp0 (pc' := 17) (st' := .int (1) :: _) vr_230_16 rfl rfl ?_
    refine zLiret vr_230_17 rfl (fun x5864 e5864 => ?_)
    cases e5864
    exact ⟨_, rfl, Or.inr ⟨rfl, z, q1⟩⟩
theorem C_without (n : Nat) (x y : Int32) (h : List zC) (u : Nat) {cnt cr : Int32} {ex : Nat → Nat → Bool} {gen : Nat → Bool} (kc : kC h cnt cr ex gen) {cc : Int32} (hcc : gF h 16 3 = some (.int cc)) (c24 : cc.toInt ≤ 24) (hcd : ∀ k, k < cc.toNatClampNeg → CI h (189 + k)) : zL zrx zi n 93 0 [(0, .ref 16), (1, .int x), (2, .int y)] [] h u (fun o h2 _ => match o with
  | .inl v => h2 = h ∧ (iN cc.toInt x ∧ iN cnt.toInt y) ∧ v = some (.int (cdC h cnt.toNatClampNeg ex gen (fun k => foC h (iv h (189 + x.toNatClampNeg) 6) k && !decide (k = y.toNatClampNeg)) (tieC h cr (189 + x.toNatClampNeg) (iv h (189 + x.toNatClampNeg) 6)) (189 + x.toNatClampNeg)))
  | .inr E => hExt h h2 ∧ E = 0 ∧ ¬ (iN cc.toInt x ∧ iN cnt.toInt y)) := by
  have hcn := kc.2.1
  refine zSiload (m := 1) (k := 1) vr_93_0 rfl rfl rfl (fun x5865 e5865 => ?_)
  cases e5865
  refine zSaload (m := 1) (k := 0) vr_93_1 rfl rfl rfl ?_
  refine zLget vr_93_2 rfl (fun p5867 w5867 e5867 t5867 g5867 => ?_)
  cases e5867
  first | (rw [hcc] at g5867; cases g5867) | (rw [(st_16_8 kc.1)] at g5867; cases g5867) | (rw [hd] at g5867; cases g5867) | (rw [(st_16_10 kc.1)] at g5867; cases g5867) | (rw [hcn] at g5867; cases g5867) | (rw [(st_case hS n24)] at g5867; cases g5867) | skip
  refine zScall vr_93_5 rfl rfl rfl (fun m5868 _ => C_num6 _ _ _ _ (m := cc.toInt) rfl) (fun v5868 h5868 u5868 q5868 => ?_) (fun E5868 h5868 u5868 q5868 => ?_)
  · obtain ⟨eh5868, rfl, r1⟩ := q5868
    replace eh5868 := eh5868.symm
    subst eh5868
    show zL zrx zi _ 93 8 [(0, _), (1, _), (2, _)] [] _ _ _
    refine zSiload (m := 1) (k := 2) vr_93_8 rfl rfl rfl (fun x5869 e5869 => ?_)
    cases e5869
    refine zSaload (m := 1) (k := 0) vr_93_9 rfl rfl rfl ?_
    refine zLget vr_93_10 rfl (fun p5871 w5871 e5871 t5871 g5871 => ?_)
    cases e5871
    first | (rw [hcc] at g5871; cases g5871) | (rw [(st_16_8 kc.1)] at g5871; cases g5871) | (rw [hd] at g5871; cases g5871) | (rw [(st_16_10 kc.1)] at g5871; cases g5871) | (rw [hcn] at g5871; cases g5871) | (rw [(st_case hS n24)] at g5871; cases g5871) | skip
    refine zLget vr_93_13 rfl (fun p5872 w5872 e5872 t5872 g5872 => ?_)
    cases e5872
    first | (rw [hcc] at g5872; cases g5872) | (rw [(st_16_8 kc.1)] at g5872; cases g5872) | (rw [hd] at g5872; cases g5872) | (rw [(st_16_10 kc.1)] at g5872; cases g5872) | (rw [hcn] at g5872; cases g5872) | (rw [(st_case hS n24)] at g5872; cases g5872) | skip
    refine zScall vr_93_16 rfl rfl rfl (fun m5873 _ => C_num6 _ _ _ _ (m := cnt.toInt) rfl) (fun v5873 h5873 u5873 q5873 => ?_) (fun E5873 h5873 u5873 q5873 => ?_)
    · obtain ⟨eh5873, rfl, r2⟩ := q5873
      replace eh5873 := eh5873.symm
      subst eh5873
      show zL zrx zi _ 93 19 [(0, _), (1, _), (2, _)] [] _ _ _
      have n24 := n24c r1 c24
      have ci := hcd x.toNatClampNeg (by
        obtain ⟨a1, a2⟩ := r1
        show x.toInt.toNat < cc.toInt.toNat
        omega)
      obtain ⟨d, hd⟩ := ci 6 (by omega)
      have hS := kc.1
      have ed : iv h (189 + x.toNatClampNeg) 6 = d := iv_of hd
      have ey : y = Int32.ofNat y.toNatClampNeg := ofn_nat r2.1
      have yl : y.toNatClampNeg < cnt.toNatClampNeg := iN_cc kc.2.2.1 r2
      refine zSaload (m := 1) (k := 0) vr_93_19 rfl rfl rfl ?_
      refine zLget vr_93_20 rfl (fun p5875 w5875 e5875 t5875 g5875 => ?_)
      cases e5875
      first | (rw [hcc] at g5875; cases g5875) | (rw [(st_16_8 kc.1)] at g5875; cases g5875) | (rw [hd] at g5875; cases g5875) | (rw [(st_16_10 kc.1)] at g5875; cases g5875) | (rw [hcn] at g5875; cases g5875) | (rw [(st_case hS n24)] at g5875; cases g5875) | skip
      refine zSiload (m := 1) (k := 1) vr_93_23 rfl rfl rfl (fun x5876 e5876 => ?_)
      cases e5876
      refine zLaald vr_93_24 rfl (fun p5877 x5877 w5877 e5877 f5877 c5877 t5877 g5877 => ?_)
      cases e5877
      cases f5877
      first | (rw [hcc] at g5877; cases g5877) | (rw [(st_16_8 kc.1)] at g5877; cases g5877) | (rw [hd] at g5877; cases g5877) | (rw [(st_16_10 kc.1)] at g5877; cases g5877) | (rw [hcn] at g5877; cases g5877) | (rw [(st_case hS n24)] at g5877; cases g5877) | skip
      refine zSastore (m := 1) (k := 3) vr_93_25 rfl rfl ?_
      show zL zrx zi _ 93 26 [(3, _), (0, _), (1, _), (2, _)] [] _ _ _
      refine zSaload (m := 1) (k := 0) vr_93_26 rfl rfl rfl ?_
      refine zLget vr_93_27 rfl (fun p5880 w5880 e5880 t5880 g5880 => ?_)
      cases e5880
      first | (rw [hcc] at g5880; cases g5880) | (rw [(st_16_8 kc.1)] at g5880; cases g5880) | (rw [hd] at g5880; cases g5880) | (rw [(st_16_10 kc.1)] at g5880; cases g5880) | (rw [hcn] at g5880; cases g5880) | (rw [(st_case hS n24)] at g5880; cases g5880) | skip
      refine zSaload (m := 1) (k := 0) vr_93_30 rfl rfl rfl ?_
      refine zLget vr_93_31 rfl (fun p5882 w5882 e5882 t5882 g5882 => ?_)
      cases e5882
      first | (rw [hcc] at g5882; cases g5882) | (rw [(st_16_8 kc.1)] at g5882; cases g5882) | (rw [hd] at g5882; cases g5882) | (rw [(st_16_10 kc.1)] at g5882; cases g5882) | (rw [hcn] at g5882; cases g5882) | (rw [(st_case hS n24)] at g5882; cases g5882) | skip
      refine zSaload (m := 1) (k := 3) vr_93_34 rfl rfl rfl ?_
      refine zLget vr_93_35 rfl (fun p5884 w5884 e5884 t5884 g5884 => ?_)
      cases e5884
      first | (rw [hcc] at g5884; cases g5884) | (rw [(st_16_8 kc.1)] at g5884; cases g5884) | (rw [hd] at g5884; cases g5884) | (rw [(st_16_10 kc.1)] at g5884; cases g5884) | (rw [hcn] at g5884; cases g5884) | (rw [(st_case hS n24)] at g5884; cases g5884) | skip
      refine zScall vr_93_38 rfl rfl rfl (fun m5885 _ => C_kIF _ _ _ _ kc) (fun v5885 h5885 u5885 q5885 => ?_) (fun E5885 h5885 u5885 q5885 => ?_)
      · obtain ⟨eh5885, z5885⟩ := q5885
        replace eh5885 := eh5885.symm
        subst eh5885
        cases z5885
        show zL zrx zi _ 93 41 [(3, _), (0, _), (1, _), (2, _)] [_, _] _ _ _
        refine zSp0 (pc' := 42) (st' := .int (1) :: _) vr_93_41 rfl rfl ?_
        refine zSiload (m := 1) (k := 2) vr_93_42 rfl rfl rfl (fun x5887 e5887 => ?_)
        cases e5887
        refine zS2 (f := fun x y => .int (x <<< (y &&& 31))) vr_93_43 rfl rfl (fun x5888 y5888 e5888 f5888 => ?_)
        cases e5888
        cases f5888
        refine zSp0 (pc' := 45) (st' := .int (-1) :: _) vr_93_44 rfl rfl ?_
        refine zS2 (f := fun x y => .int (x ^^^ y)) vr_93_45 rfl rfl (fun x5890 y5890 e5890 f5890 => ?_)
        cases e5890
        cases f5890
        refine zS2 (f := fun x y => .int (x &&& y)) vr_93_46 rfl rfl (fun x5891 y5891 e5891 f5891 => ?_)
        cases e5891
        cases f5891
        rw [ey]
        rw [bS_out (by have := kc.2.2.2.1; have : cnt.toNatClampNeg = cnt.toInt.toNat := rfl; omega) yl]
        rw [← ey]
        refine zSaload (m := 1) (k := 3) vr_93_47 rfl rfl rfl ?_
        refine zSaload (m := 1) (k := 3) vr_93_48 rfl rfl rfl ?_
        refine zLget vr_93_49 rfl (fun p5894 w5894 e5894 t5894 g5894 => ?_)
        cases e5894
        first | (rw [hcc] at g5894; cases g5894) | (rw [(st_16_8 kc.1)] at g5894; cases g5894) | (rw [hd] at g5894; cases g5894) | (rw [(st_16_10 kc.1)] at g5894; cases g5894) | (rw [hcn] at g5894; cases g5894) | (rw [(st_case hS n24)] at g5894; cases g5894) | skip
        refine zScall vr_93_52 rfl rfl rfl (fun m5895 _ => C_kTo _ _ _ _ _ _ kc ci) (fun v5895 h5895 u5895 q5895 => ?_) (fun E5895 h5895 u5895 q5895 => ?_)
        · obtain ⟨eh5895, z5895⟩ := q5895
          replace eh5895 := eh5895.symm
          subst eh5895
          cases z5895
          show zL zrx zi _ 93 55 [(3, _), (0, _), (1, _), (2, _)] [_] _ _ _
          refine zLiret vr_93_55 rfl (fun x5896 e5896 => ?_)
          cases e5896
          exact ⟨rfl, ⟨r1, r2⟩, by rw [ed]⟩
        · obtain ⟨-, z⟩ := q5895
          cases z
      · obtain ⟨-, z⟩ := q5885
        cases z
    · obtain ⟨rfl, q1, q2⟩ := q5873
      rw [zCat_no vh_93_16_0]
      exact ⟨q2, rfl, fun z => q1 z.2⟩
  · obtain ⟨rfl, q1, q2⟩ := q5868
    rw [zCat_no vh_93_5_0]
    exact ⟨q2, rfl, fun z => q1 z.1⟩
abbrev Q_Lwithout (ex : Nat → Nat → Bool) (gen : Nat → Bool) (cnt cr cc : Int32) (x y : Int32) (h : List zC) : zK := fun o h2 _ => ∃ k : Int32, o = .inl (some (.int k)) ∧
  ((k = 0 ∧ (iN cc.toInt x ∧ iN cnt.toInt y) ∧ hPut h h2 238 0 (.long (cdC h cnt.toNatClampNeg ex gen (fun k => foC h (iv h (189 + x.toNatClampNeg) 6) k && !decide (k = y.toNatClampNeg)) (tieC h cr (189 + x.toNatClampNeg) (iv h (189 + x.toNatClampNeg) 6)) (189 + x.toNatClampNeg)).toInt64)) ∨ (k = 1 ∧ ¬ (iN cc.toInt x ∧ iN cnt.toInt y) ∧ hExt h h2))
theorem C_Lwithout (n : Nat) (x y : Int32) (h : List zC) (u : Nat) {cnt cr : Int32} {ex : Nat → Nat → Bool} {gen : Nat → Bool} (kc : kC h cnt cr ex gen) {cc : Int32} (hcc : gF h 16 3 = some (.int cc)) (c24 : cc.toInt ≤ 24) (hcd : ∀ k, k < cc.toNatClampNeg → CI h (189 + k)) : zL zrx zi n 242 0 [(0, .ref 16), (1, .int x), (2, .int y), (3, .ref 238)] [] h u (Q_Lwithout ex gen cnt cr cc x y h) := by
  refine zSaload (m := 1) (k := 3) vr_242_0 rfl rfl rfl ?_
  refine zSaload (m := 1) (k := 0) vr_242_1 rfl rfl rfl ?_
  refine zSiload (m := 1) (k := 1) vr_242_2 rfl rfl rfl (fun x5899 e5899 => ?_)
  cases e5899
  refine zSiload (m := 1) (k := 2) vr_242_3 rfl rfl rfl (fun x5900 e5900 => ?_)
  cases e5900
  refine zScall vr_242_4 rfl rfl rfl (fun m5901 _ => C_without _ _ _ _ _ kc hcc c24 hcd) (fun v5901 h5901 u5901 q5901 => ?_) (fun E5901 h5901 u5901 q5901 => ?_)
  · obtain ⟨eh5901, k1, z5901⟩ := q5901
    replace eh5901 := eh5901.symm
    subst eh5901
    cases z5901
    show zL zrx zi _ 242 7 [(0, _), (1, _), (2, _), (3, _)] [_, _] _ _ _
    refine zS1 (f := fun x => .long x.toInt64) vr_242_7 rfl rfl (fun x5902 e5902 => ?_)
    cases e5902
    refine zLput vr_242_8 rfl (fun p5903 k5903 e5903 t5903 g5903 => ?_)
    cases e5903
    have gP := g5903
    refine zSgo (t := 18) vr_242_11 rfl rfl ?_
    refine zSp0 (pc' := 19) (st' := .int (0) :: _) vr_242_18 rfl rfl ?_
    refine zLiret vr_242_19 rfl (fun x5906 e5906 => ?_)
    cases e5906
    exact ⟨_, rfl, Or.inl ⟨rfl, k1, gP⟩⟩
  · obtain ⟨q1, rfl, z⟩ := q5901
    rw [zCat_hit (k := 4) (m := 2) vh_242_4_0 vr_242_14 rfl (by decide)]
    show zL zrx zi _ 242 16 [(0, _), (1, _), (2, _), (3, _)] [] _ _ _
    refine zSp0 (pc' := 17) (st' := .int (1) :: _) vr_242_16 rfl rfl ?_
    refine zLiret vr_242_17 rfl (fun x5908 e5908 => ?_)
    cases e5908
    exact ⟨_, rfl, Or.inr ⟨rfl, z, q1⟩⟩
theorem C_wJ (n : Nat) (x y : Int32) (h : List zC) (u : Nat) {cnt cr : Int32} {ex : Nat → Nat → Bool} {gen : Nat → Bool} (kc : kC h cnt cr ex gen) {cc : Int32} (hcc : gF h 16 3 = some (.int cc)) (c24 : cc.toInt ≤ 24) (hcd : ∀ k, k < cc.toNatClampNeg → CI h (189 + k)) (hw : ∀ i, i < 4 → ∃ w : Int32, gF h 25 i = some (.int w)) : zL zrx zi n 92 0 [(0, .ref 16), (1, .int x), (2, .int y)] [] h u (fun o h2 _ => match o with
  | .inl v => h2 = h ∧ (iN cc.toInt x ∧ iN 4 y) ∧ v = some (.int (jdT (iv h 25 y.toNatClampNeg) (kT h cnt cr ex gen (189 + x.toNatClampNeg) (iv h (189 + x.toNatClampNeg) 6)) (tieC h cr (189 + x.toNatClampNeg) (iv h (189 + x.toNatClampNeg) 6))))
  | .inr E => hExt h h2 ∧ E = 0 ∧ ¬ (iN cc.toInt x ∧ iN 4 y)) := by
  refine zSiload (m := 1) (k := 1) vr_92_0 rfl rfl rfl (fun x5909 e5909 => ?_)
  cases e5909
  refine zSaload (m := 1) (k := 0) vr_92_1 rfl rfl rfl ?_
  refine zLget vr_92_2 rfl (fun p5911 w5911 e5911 t5911 g5911 => ?_)
  cases e5911
  first | (rw [hcc] at g5911; cases g5911) | (rw [(st_16_8 kc.1)] at g5911; cases g5911) | (rw [(st_16_6' kc.1)] at g5911; cases g5911) | (rw [hw1] at g5911; cases g5911) | (rw [(st_case hS n24)] at g5911; cases g5911) | skip
  refine zScall vr_92_5 rfl rfl rfl (fun m5912 _ => C_num6 _ _ _ _ (m := cc.toInt) rfl) (fun v5912 h5912 u5912 q5912 => ?_) (fun E5912 h5912 u5912 q5912 => ?_)
  · obtain ⟨eh5912, rfl, r1⟩ := q5912
    replace eh5912 := eh5912.symm
    subst eh5912
    show zL zrx zi _ 92 8 [(0, _), (1, _), (2, _)] [] _ _ _
    refine zSiload (m := 1) (k := 2) vr_92_8 rfl rfl rfl (fun x5913 e5913 => ?_)
    cases e5913
    refine zSp0 (pc' := 10) (st' := .int (4) :: _) vr_92_9 rfl rfl ?_
    refine zScall vr_92_10 rfl rfl rfl (fun m5915 _ => C_num6 _ _ _ _ (m := 4) (by rfl)) (fun v5915 h5915 u5915 q5915 => ?_) (fun E5915 h5915 u5915 q5915 => ?_)
    · obtain ⟨eh5915, rfl, r2⟩ := q5915
      replace eh5915 := eh5915.symm
      subst eh5915
      show zL zrx zi _ 92 13 [(0, _), (1, _), (2, _)] [] _ _ _
      have n24 := n24c r1 c24
      have ci := hcd x.toNatClampNeg (by
        obtain ⟨a1, a2⟩ := r1
        show x.toInt.toNat < cc.toInt.toNat
        omega)
      obtain ⟨d, hd⟩ := ci 6 (by omega)
      have hS := kc.1
      have ed : iv h (189 + x.toNatClampNeg) 6 = d := iv_of hd
      obtain ⟨w, hw1⟩ := hw y.toNatClampNeg (n4c r2)
      have ew : iv h 25 y.toNatClampNeg = w := iv_of hw1
      refine zSaload (m := 1) (k := 0) vr_92_13 rfl rfl rfl ?_
      refine zSaload (m := 1) (k := 0) vr_92_14 rfl rfl rfl ?_
      refine zLget vr_92_15 rfl (fun p5918 w5918 e5918 t5918 g5918 => ?_)
      cases e5918
      first | (rw [hcc] at g5918; cases g5918) | (rw [(st_16_8 kc.1)] at g5918; cases g5918) | (rw [(st_16_6' kc.1)] at g5918; cases g5918) | (rw [hw1] at g5918; cases g5918) | (rw [(st_case hS n24)] at g5918; cases g5918) | skip
      refine zSiload (m := 1) (k := 2) vr_92_18 rfl rfl rfl (fun x5919 e5919 => ?_)
      cases e5919
      refine zLiald vr_92_19 rfl (fun p5920 x5920 w5920 e5920 f5920 c5920 t5920 g5920 => ?_)
      cases e5920
      cases f5920
      first | (rw [hcc] at g5920; cases g5920) | (rw [(st_16_8 kc.1)] at g5920; cases g5920) | (rw [(st_16_6' kc.1)] at g5920; cases g5920) | (rw [hw1] at g5920; cases g5920) | (rw [(st_case hS n24)] at g5920; cases g5920) | skip
      refine zSaload (m := 1) (k := 0) vr_92_20 rfl rfl rfl ?_
      refine zLget vr_92_21 rfl (fun p5922 w5922 e5922 t5922 g5922 => ?_)
      cases e5922
      first | (rw [hcc] at g5922; cases g5922) | (rw [(st_16_8 kc.1)] at g5922; cases g5922) | (rw [(st_16_6' kc.1)] at g5922; cases g5922) | (rw [hw1] at g5922; cases g5922) | (rw [(st_case hS n24)] at g5922; cases g5922) | skip
      refine zSiload (m := 1) (k := 1) vr_92_24 rfl rfl rfl (fun x5923 e5923 => ?_)
      cases e5923
      refine zLaald vr_92_25 rfl (fun p5924 x5924 w5924 e5924 f5924 c5924 t5924 g5924 => ?_)
      cases e5924
      cases f5924
      first | (rw [hcc] at g5924; cases g5924) | (rw [(st_16_8 kc.1)] at g5924; cases g5924) | (rw [(st_16_6' kc.1)] at g5924; cases g5924) | (rw [hw1] at g5924; cases g5924) | (rw [(st_case hS n24)] at g5924; cases g5924) | skip
      refine zScall vr_92_26 rfl rfl rfl (fun m5925 _ => C_jB _ _ _ _ _ kc ci hd) (fun v5925 h5925 u5925 q5925 => ?_) (fun E5925 h5925 u5925 q5925 => ?_)
      · obtain ⟨eh5925, z5925⟩ := q5925
        replace eh5925 := eh5925.symm
        subst eh5925
        cases z5925
        show zL zrx zi _ 92 29 [(0, _), (1, _), (2, _)] [_] _ _ _
        refine zLiret vr_92_29 rfl (fun x5926 e5926 => ?_)
        cases e5926
        exact ⟨rfl, ⟨r1, r2⟩, by rw [ed, ew]⟩
      · obtain ⟨-, z⟩ := q5925
        cases z
    · obtain ⟨rfl, q1, q2⟩ := q5915
      rw [zCat_no vh_92_10_0]
      exact ⟨q2, rfl, fun z => q1 z.2⟩
  · obtain ⟨rfl, q1, q2⟩ := q5912
    rw [zCat_no vh_92_5_0]
    exact ⟨q2, rfl, fun z => q1 z.1⟩
abbrev Q_LwJ (ex : Nat → Nat → Bool) (gen : Nat → Bool) (cnt cr cc : Int32) (x y : Int32) (h : List zC) : zK := fun o h2 _ => ∃ k : Int32, o = .inl (some (.int k)) ∧
  ((k = 0 ∧ (iN cc.toInt x ∧ iN 4 y) ∧ hPut h h2 238 0 (.long (jdT (iv h 25 y.toNatClampNeg) (kT h cnt cr ex gen (189 + x.toNatClampNeg) (iv h (189 + x.toNatClampNeg) 6)) (tieC h cr (189 + x.toNatClampNeg) (iv h (189 + x.toNatClampNeg) 6))).toInt64)) ∨ (k = 1 ∧ ¬ (iN cc.toInt x ∧ iN 4 y) ∧ hExt h h2))
theorem C_LwJ (n : Nat) (x y : Int32) (h : List zC) (u : Nat) {cnt cr : Int32} {ex : Nat → Nat → Bool} {gen : Nat → Bool} (kc : kC h cnt cr ex gen) {cc : Int32} (hcc : gF h 16 3 = some (.int cc)) (c24 : cc.toInt ≤ 24) (hcd : ∀ k, k < cc.toNatClampNeg → CI h (189 + k)) (hw : ∀ i, i < 4 → ∃ w : Int32, gF h 25 i = some (.int w)) : zL zrx zi n 241 0 [(0, .ref 16), (1, .int x), (2, .int y), (3, .ref 238)] [] h u (Q_LwJ ex gen cnt cr cc x y h) := by
  refine zSaload (m := 1) (k := 3) vr_241_0 rfl rfl rfl ?_
  refine zSaload (m := 1) (k := 0) vr_241_1 rfl rfl rfl ?_
  refine zSiload (m := 1) (k := 1) vr_241_2 rfl rfl rfl (fun x5929 e5929 => ?_)
  cases e5929
  refine zSiload (m := 1) (k := 2) vr_241_3 rfl rfl rfl (fun x5930 e5930 => ?_)
  cases e5930
  refine zScall vr_241_4 rfl rfl rfl (fun m5931 _ => C_wJ _ _ _ _ _ kc hcc c24 hcd hw) (fun v5931 h5931 u5931 q5931 => ?_) (fun E5931 h5931 u5931 q5931 => ?_)
  · obtain ⟨eh5931, k1, z5931⟩ := q5931
    replace eh5931 := eh5931.symm
    subst eh5931
    cases z5931
    show zL zrx zi _ 241 7 [(0, _), (1, _), (2, _), (3, _)] [_, _] _ _ _
    refine zS1 (f := fun x => .long x.toInt64) vr_241_7 rfl rfl (fun x5932 e5932 => ?_)
    cases e5932
    refine zLput vr_241_8 rfl (fun p5933 k5933 e5933 t5933 g5933 => ?_)
    cases e5933
    have gP := g5933
    refine zSgo (t := 18) vr_241_11 rfl rfl ?_
    refine zSp0 (pc' := 19) (st' := .int (0) :: _) vr_241_18 rfl rfl ?_
    refine zLiret vr_241_19 rfl (fun x5936 e5936 => ?_)
    cases e5936
    exact ⟨_, rfl, Or.inl ⟨rfl, k1, gP⟩⟩
  · obtain ⟨q1, rfl, z⟩ := q5931
    rw [zCat_hit (k := 4) (m := 2) vh_241_4_0 vr_241_14 rfl (by decide)]
    show zL zrx zi _ 241 16 [(0, _), (1, _), (2, _), (3, _)] [] _ _ _
    refine zSp0 (pc' := 17) (st' := .int (1) :: _) vr_241_16 rfl rfl ?_
    refine zLiret vr_241_17 rfl (fun x5938 e5938 => ?_)
    cases e5938
    exact ⟨_, rfl, Or.inr ⟨rfl, z, q1⟩⟩
theorem C_judge (n : Nat) (x y : Int32) (h : List zC) (u : Nat) {cnt cr : Int32} {ex : Nat → Nat → Bool} {gen : Nat → Bool} (kc : kC h cnt cr ex gen) {cc : Int32} (hcc : gF h 16 3 = some (.int cc)) (c24 : cc.toInt ≤ 24) (hcd : ∀ k, k < cc.toNatClampNeg → CI h (189 + k)) (hw : ∀ i, i < 4 → ∃ w : Int32, gF h 25 i = some (.int w)) : zL zrx zi n 73 0 [(0, .ref 16), (1, .int x), (2, .int y)] [] h u (fun o h2 _ => match o with
  | .inl v => ((iN cc.toInt x ∧ iN 4 y) ∧ iv h (189 + x.toNatClampNeg) 7 = -1) ∧ ∃ h1 : List zC, v = some (.int (jdT (iv h 25 y.toNatClampNeg) (kT h cnt cr ex gen (189 + x.toNatClampNeg) (iv h (189 + x.toNatClampNeg) 6)) (tieC h cr (189 + x.toNatClampNeg) (iv h (189 + x.toNatClampNeg) 6)))) ∧ hPut h h1 (189 + x.toNatClampNeg) 8 (.int (jdT (iv h 25 y.toNatClampNeg) (kT h cnt cr ex gen (189 + x.toNatClampNeg) (iv h (189 + x.toNatClampNeg) 6)) (tieC h cr (189 + x.toNatClampNeg) (iv h (189 + x.toNatClampNeg) 6)))) ∧ hPut h1 h2 (189 + x.toNatClampNeg) 7 (.int y)
  | .inr E => hExt h h2 ∧ ((E = 0 ∧ ¬ (iN cc.toInt x ∧ iN 4 y)) ∨ (E = 2 ∧ (iN cc.toInt x ∧ iN 4 y) ∧ ¬ (iv h (189 + x.toNatClampNeg) 7 = -1)))) := by
  refine zSiload (m := 1) (k := 1) vr_73_0 rfl rfl rfl (fun x5939 e5939 => ?_)
  cases e5939
  refine zSaload (m := 1) (k := 0) vr_73_1 rfl rfl rfl ?_
  refine zLget vr_73_2 rfl (fun p5941 w5941 e5941 t5941 g5941 => ?_)
  cases e5941
  first | (rw [hcc] at g5941; cases g5941) | (rw [(st_16_8 kc.1)] at g5941; cases g5941) | (rw [(st_16_6' kc.1)] at g5941; cases g5941) | (rw [hw1] at g5941; cases g5941) | (rw [(st_case hS n24)] at g5941; cases g5941) | (rw [f8] at g5941; cases g5941) | skip
  refine zScall vr_73_5 rfl rfl rfl (fun m5942 _ => C_num6 _ _ _ _ (m := cc.toInt) rfl) (fun v5942 h5942 u5942 q5942 => ?_) (fun E5942 h5942 u5942 q5942 => ?_)
  · obtain ⟨eh5942, rfl, r1⟩ := q5942
    replace eh5942 := eh5942.symm
    subst eh5942
    show zL zrx zi _ 73 8 [(0, _), (1, _), (2, _)] [] _ _ _
    refine zSiload (m := 1) (k := 2) vr_73_8 rfl rfl rfl (fun x5943 e5943 => ?_)
    cases e5943
    refine zSp0 (pc' := 10) (st' := .int (4) :: _) vr_73_9 rfl rfl ?_
    refine zScall vr_73_10 rfl rfl rfl (fun m5945 _ => C_num6 _ _ _ _ (m := 4) (by rfl)) (fun v5945 h5945 u5945 q5945 => ?_) (fun E5945 h5945 u5945 q5945 => ?_)
    · obtain ⟨eh5945, rfl, r2⟩ := q5945
      replace eh5945 := eh5945.symm
      subst eh5945
      show zL zrx zi _ 73 13 [(0, _), (1, _), (2, _)] [] _ _ _
      have n24 := n24c r1 c24
      have ci := hcd x.toNatClampNeg (by
        obtain ⟨a1, a2⟩ := r1
        show x.toInt.toNat < cc.toInt.toNat
        omega)
      obtain ⟨d, hd⟩ := ci 6 (by omega)
      have hS := kc.1
      have ed : iv h (189 + x.toNatClampNeg) 6 = d := iv_of hd
      obtain ⟨w, hw1⟩ := hw y.toNatClampNeg (n4c r2)
      have ew : iv h 25 y.toNatClampNeg = w := iv_of hw1
      refine zSaload (m := 1) (k := 0) vr_73_13 rfl rfl rfl ?_
      refine zLget vr_73_14 rfl (fun p5947 w5947 e5947 t5947 g5947 => ?_)
      cases e5947
      first | (rw [hcc] at g5947; cases g5947) | (rw [(st_16_8 kc.1)] at g5947; cases g5947) | (rw [(st_16_6' kc.1)] at g5947; cases g5947) | (rw [hw1] at g5947; cases g5947) | (rw [(st_case hS n24)] at g5947; cases g5947) | (rw [f8] at g5947; cases g5947) | skip
      refine zSiload (m := 1) (k := 1) vr_73_17 rfl rfl rfl (fun x5948 e5948 => ?_)
      cases e5948
      refine zLaald vr_73_18 rfl (fun p5949 x5949 w5949 e5949 f5949 c5949 t5949 g5949 => ?_)
      cases e5949
      cases f5949
      first | (rw [hcc] at g5949; cases g5949) | (rw [(st_16_8 kc.1)] at g5949; cases g5949) | (rw [(st_16_6' kc.1)] at g5949; cases g5949) | (rw [hw1] at g5949; cases g5949) | (rw [(st_case hS n24)] at g5949; cases g5949) | (rw [f8] at g5949; cases g5949) | skip
      refine zSastore (m := 1) (k := 3) vr_73_19 rfl rfl ?_
      show zL zrx zi _ 73 20 [(3, _), (0, _), (1, _), (2, _)] [] _ _ _
      refine zSaload (m := 1) (k := 3) vr_73_20 rfl rfl rfl ?_
      refine zLget vr_73_21 rfl (fun p5952 w5952 e5952 t5952 g5952 => ?_)
      cases e5952
      first | (rw [hcc] at g5952; cases g5952) | (rw [(st_16_8 kc.1)] at g5952; cases g5952) | (rw [(st_16_6' kc.1)] at g5952; cases g5952) | (rw [hw1] at g5952; cases g5952) | (rw [(st_case hS n24)] at g5952; cases g5952) | (rw [f8] at g5952; cases g5952) | skip
      refine zSp0 (pc' := 25) (st' := .int (-1) :: _) vr_73_24 rfl rfl ?_
      refine zSb2 (f := fun x y => decide (¬ x = y)) (off := 7) (t := 32) vr_73_25 rfl rfl rfl (fun x5954 y5954 e5954 f5954 q5954 => ?_) (fun x5954 y5954 e5954 f5954 q5954 => ?_)
      · cases e5954
        cases f5954
        have c5954 := of_decide_eq_true q5954
        refine zSp0 (pc' := 33) (st' := .int (0) :: _) vr_73_32 rfl rfl ?_
        refine zScall vr_73_33 rfl rfl rfl (fun m _ => C_needState _ _ _ _) (fun v h u q => absurd rfl q.2.2) (fun E h3 u q => ?_)
        obtain ⟨rfl, -, q2⟩ := q
        rw [zCat_no vh_73_33_2]
        exact ⟨q2, Or.inr ⟨rfl, ⟨r1, r2⟩, fun z => c5954 ((iv_of g5952).symm.trans z)⟩⟩
      · cases e5954
        cases f5954
        have c5954 := ndc q5954
        refine zSp0 (pc' := 29) (st' := .int (1) :: _) vr_73_28 rfl rfl ?_
        refine zSgo (t := 33) vr_73_29 rfl rfl ?_
        refine zScall vr_73_33 rfl rfl rfl (fun m5957 _ => C_needState _ _ _ _) (fun v5957 h5957 u5957 q5957 => ?_) (fun E5957 h5957 u5957 q5957 => ?_)
        · obtain ⟨eh5957, rfl, -⟩ := q5957
          replace eh5957 := eh5957.symm
          subst eh5957
          show zL zrx zi _ 73 36 [(3, _), (0, _), (1, _), (2, _)] [] _ _ _
          refine zSaload (m := 1) (k := 3) vr_73_36 rfl rfl rfl ?_
          refine zSaload (m := 1) (k := 0) vr_73_37 rfl rfl rfl ?_
          refine zSaload (m := 1) (k := 0) vr_73_38 rfl rfl rfl ?_
          refine zLget vr_73_39 rfl (fun p5961 w5961 e5961 t5961 g5961 => ?_)
          cases e5961
          first | (rw [hcc] at g5961; cases g5961) | (rw [(st_16_8 kc.1)] at g5961; cases g5961) | (rw [(st_16_6' kc.1)] at g5961; cases g5961) | (rw [hw1] at g5961; cases g5961) | (rw [(st_case hS n24)] at g5961; cases g5961) | (rw [f8] at g5961; cases g5961) | skip
          refine zSiload (m := 1) (k := 2) vr_73_42 rfl rfl rfl (fun x5962 e5962 => ?_)
          cases e5962
          refine zLiald vr_73_43 rfl (fun p5963 x5963 w5963 e5963 f5963 c5963 t5963 g5963 => ?_)
          cases e5963
          cases f5963
          first | (rw [hcc] at g5963; cases g5963) | (rw [(st_16_8 kc.1)] at g5963; cases g5963) | (rw [(st_16_6' kc.1)] at g5963; cases g5963) | (rw [hw1] at g5963; cases g5963) | (rw [(st_case hS n24)] at g5963; cases g5963) | (rw [f8] at g5963; cases g5963) | skip
          refine zSaload (m := 1) (k := 3) vr_73_44 rfl rfl rfl ?_
          refine zScall vr_73_45 rfl rfl rfl (fun m5965 _ => C_jB _ _ _ _ _ kc ci hd) (fun v5965 h5965 u5965 q5965 => ?_) (fun E5965 h5965 u5965 q5965 => ?_)
          · obtain ⟨eh5965, z5965⟩ := q5965
            replace eh5965 := eh5965.symm
            subst eh5965
            cases z5965
            show zL zrx zi _ 73 48 [(3, _), (0, _), (1, _), (2, _)] [_, _] _ _ _
            refine zLput vr_73_48 rfl (fun p5966 k5966 e5966 t5966 g5966 => ?_)
            cases e5966
            refine zSaload (m := 1) (k := 3) vr_73_51 rfl rfl rfl ?_
            refine zSiload (m := 1) (k := 2) vr_73_52 rfl rfl rfl (fun x5968 e5968 => ?_)
            cases e5968
            refine zLput vr_73_53 rfl (fun p5969 k5969 e5969 t5969 g5969 => ?_)
            cases e5969
            have f8 : gF k5969 (189 + x.toNatClampNeg) 8 = _ := (g5969.2.1 _ 8).trans ((if_neg (by omega)).trans ((g5966.2.1 _ 8).trans (if_pos ⟨rfl, rfl⟩)))
            refine zSaload (m := 1) (k := 3) vr_73_56 rfl rfl rfl ?_
            refine zLget vr_73_57 rfl (fun p5971 w5971 e5971 t5971 g5971 => ?_)
            cases e5971
            first | (rw [hcc] at g5971; cases g5971) | (rw [(st_16_8 kc.1)] at g5971; cases g5971) | (rw [(st_16_6' kc.1)] at g5971; cases g5971) | (rw [hw1] at g5971; cases g5971) | (rw [(st_case hS n24)] at g5971; cases g5971) | (rw [f8] at g5971; cases g5971) | skip
            refine zLiret vr_73_60 rfl (fun x5972 e5972 => ?_)
            cases e5972
            have g48 := g5966
            rw [← ed, ← ew] at g48
            exact ⟨⟨⟨r1, r2⟩, (iv_of g5952).trans (Decidable.not_not.mp c5954)⟩, _, by rw [ed, ew], g48, g5969⟩
          · obtain ⟨-, z⟩ := q5965
            cases z
        · obtain ⟨-, z, -⟩ := q5957
          exact absurd z (by decide)
    · obtain ⟨rfl, q1, q2⟩ := q5945
      rw [zCat_no vh_73_10_0]
      exact ⟨q2, Or.inl ⟨rfl, fun z => q1 z.2⟩⟩
  · obtain ⟨rfl, q1, q2⟩ := q5942
    rw [zCat_no vh_73_5_0]
    exact ⟨q2, Or.inl ⟨rfl, fun z => q1 z.1⟩⟩
abbrev Q_Ljudge (ex : Nat → Nat → Bool) (gen : Nat → Bool) (cnt cr cc : Int32) (x y : Int32) (h : List zC) : zK := fun o h2 _ => ∃ k : Int32, o = .inl (some (.int k)) ∧
  ((k = 0 ∧ ((iN cc.toInt x ∧ iN 4 y) ∧ iv h (189 + x.toNatClampNeg) 7 = -1) ∧ ∃ h1 h3 : List zC, hPut h h1 (189 + x.toNatClampNeg) 8 (.int (jdT (iv h 25 y.toNatClampNeg) (kT h cnt cr ex gen (189 + x.toNatClampNeg) (iv h (189 + x.toNatClampNeg) 6)) (tieC h cr (189 + x.toNatClampNeg) (iv h (189 + x.toNatClampNeg) 6)))) ∧ hPut h1 h3 (189 + x.toNatClampNeg) 7 (.int y) ∧ hPut h3 h2 238 0 (.long (jdT (iv h 25 y.toNatClampNeg) (kT h cnt cr ex gen (189 + x.toNatClampNeg) (iv h (189 + x.toNatClampNeg) 6)) (tieC h cr (189 + x.toNatClampNeg) (iv h (189 + x.toNatClampNeg) 6))).toInt64)) ∨ (k = 1 ∧ ¬ (iN cc.toInt x ∧ iN 4 y) ∧ hExt h h2) ∨ (k = 2 ∧ (iN cc.toInt x ∧ iN 4 y) ∧ ¬ (iv h (189 + x.toNatClampNeg) 7 = -1) ∧ hExt h h2))
theorem C_Ljudge (n : Nat) (x y : Int32) (h : List zC) (u : Nat) {cnt cr : Int32} {ex : Nat → Nat → Bool} {gen : Nat → Bool} (kc : kC h cnt cr ex gen) {cc : Int32} (hcc : gF h 16 3 = some (.int cc)) (c24 : cc.toInt ≤ 24) (hcd : ∀ k, k < cc.toNatClampNeg → CI h (189 + k)) (hw : ∀ i, i < 4 → ∃ w : Int32, gF h 25 i = some (.int w)) : zL zrx zi n 224 0 [(0, .ref 16), (1, .int x), (2, .int y), (3, .ref 238)] [] h u (Q_Ljudge ex gen cnt cr cc x y h) := by
  refine zSaload (m := 1) (k := 3) vr_224_0 rfl rfl rfl ?_
  refine zSaload (m := 1) (k := 0) vr_224_1 rfl rfl rfl ?_
  refine zSiload (m := 1) (k := 1) vr_224_2 rfl rfl rfl (fun x5975 e5975 => ?_)
  cases e5975
  refine zSiload (m := 1) (k := 2) vr_224_3 rfl rfl rfl (fun x5976 e5976 => ?_)
  cases e5976
  refine zScall vr_224_4 rfl rfl rfl (fun m5977 _ => C_judge _ _ _ _ _ kc hcc c24 hcd hw) (fun v5977 h5977 u5977 q5977 => ?_) (fun E5977 h5977 u5977 q5977 => ?_)
  · obtain ⟨k1, i5977, z5977, k2, k3⟩ := q5977
    cases z5977
    show zL zrx zi _ 224 7 [(0, _), (1, _), (2, _), (3, _)] [_, _] _ _ _
    refine zS1 (f := fun x => .long x.toInt64) vr_224_7 rfl rfl (fun x5978 e5978 => ?_)
    cases e5978
    refine zLput vr_224_8 rfl (fun p5979 k5979 e5979 t5979 g5979 => ?_)
    cases e5979
    have gP := g5979
    refine zSgo (t := 22) vr_224_11 rfl rfl ?_
    refine zSp0 (pc' := 23) (st' := .int (0) :: _) vr_224_22 rfl rfl ?_
    refine zLiret vr_224_23 rfl (fun x5982 e5982 => ?_)
    cases e5982
    exact ⟨_, rfl, Or.inl ⟨rfl, k1, _, _, k2, k3, gP⟩⟩
  · obtain ⟨q1, ⟨rfl, z⟩ | ⟨rfl, z⟩⟩ := q5977
    · rw [zCat_hit (k := 4) (m := 2) vh_224_4_0 vr_224_14 rfl (by decide)]
      show zL zrx zi _ 224 16 [(0, _), (1, _), (2, _), (3, _)] [] _ _ _
      refine zSp0 (pc' := 17) (st' := .int (1) :: _) vr_224_16 rfl rfl ?_
      refine zLiret vr_224_17 rfl (fun x5984 e5984 => ?_)
      cases e5984
      exact ⟨_, rfl, Or.inr (Or.inl ⟨rfl, z, q1⟩)⟩
    · rw [zCat_hit (k := 4) (m := 2) vh_224_4_2 vr_224_18 rfl (by decide)]
      show zL zrx zi _ 224 20 [(0, _), (1, _), (2, _), (3, _)] [] _ _ _
      refine zSp0 (pc' := 21) (st' := .int (2) :: _) vr_224_20 rfl rfl ?_
      refine zLiret vr_224_21 rfl (fun x5986 e5986 => ?_)
      cases e5986
      exact ⟨_, rfl, Or.inr (Or.inr ⟨rfl, z.1, z.2, q1⟩)⟩
theorem C_appeal (n : Nat) (x : Int32) (h : List zC) (u : Nat) {cnt cr : Int32} {ex : Nat → Nat → Bool} {gen : Nat → Bool} (kc : kC h cnt cr ex gen) {cc : Int32} (hcc : gF h 16 3 = some (.int cc)) (c24 : cc.toInt ≤ 24) (hcd : ∀ k, k < cc.toNatClampNeg → CI h (189 + k)) {rv : Int32} (hr2 : gF h 16 2 = some (.int rv)) : zL zrx zi n 74 0 [(0, .ref 16), (1, .int x)] [] h u (fun o h2 _ => match o with
  | .inl v => (iN cc.toInt x ∧ ¬ iv h (189 + x.toNatClampNeg) 7 = -1) ∧ v = some (.int (kT h cnt cr ex gen (189 + x.toNatClampNeg) (iv h (189 + x.toNatClampNeg) 6))) ∧ ((iv h (189 + x.toNatClampNeg) 8 = kT h cnt cr ex gen (189 + x.toNatClampNeg) (iv h (189 + x.toNatClampNeg) 6) ∧ h2 = h) ∨ (¬ iv h (189 + x.toNatClampNeg) 8 = kT h cnt cr ex gen (189 + x.toNatClampNeg) (iv h (189 + x.toNatClampNeg) 6) ∧ ∃ h1 : List zC, hPut h h1 (189 + x.toNatClampNeg) 8 (.int (kT h cnt cr ex gen (189 + x.toNatClampNeg) (iv h (189 + x.toNatClampNeg) 6))) ∧ hPut h1 h2 16 2 (.int (rv + 1))))
  | .inr E => hExt h h2 ∧ ((E = 0 ∧ ¬ iN cc.toInt x) ∨ (E = 2 ∧ iN cc.toInt x ∧ ¬ ¬ iv h (189 + x.toNatClampNeg) 7 = -1))) := by
  refine zSiload (m := 1) (k := 1) vr_74_0 rfl rfl rfl (fun x5987 e5987 => ?_)
  cases e5987
  refine zSaload (m := 1) (k := 0) vr_74_1 rfl rfl rfl ?_
  refine zLget vr_74_2 rfl (fun p5989 w5989 e5989 t5989 g5989 => ?_)
  cases e5989
  first | (rw [hcc] at g5989; cases g5989) | (rw [(st_16_8 kc.1)] at g5989; cases g5989) | (rw [(st_case hS n24)] at g5989; cases g5989) | (rw [hd] at g5989; cases g5989) | (rw [f8] at g5989; cases g5989) | (rw [hrv] at g5989; cases g5989) | skip
  refine zScall vr_74_5 rfl rfl rfl (fun m5990 _ => C_num6 _ _ _ _ (m := cc.toInt) rfl) (fun v5990 h5990 u5990 q5990 => ?_) (fun E5990 h5990 u5990 q5990 => ?_)
  · obtain ⟨eh5990, rfl, r1⟩ := q5990
    replace eh5990 := eh5990.symm
    subst eh5990
    show zL zrx zi _ 74 8 [(0, _), (1, _)] [] _ _ _
    have n24 := n24c r1 c24
    have ci := hcd x.toNatClampNeg (by
      obtain ⟨a1, a2⟩ := r1
      show x.toInt.toNat < cc.toInt.toNat
      omega)
    obtain ⟨d, hd⟩ := ci 6 (by omega)
    have hS := kc.1
    have ed : iv h (189 + x.toNatClampNeg) 6 = d := iv_of hd
    refine zSaload (m := 1) (k := 0) vr_74_8 rfl rfl rfl ?_
    refine zLget vr_74_9 rfl (fun p5992 w5992 e5992 t5992 g5992 => ?_)
    cases e5992
    first | (rw [hcc] at g5992; cases g5992) | (rw [(st_16_8 kc.1)] at g5992; cases g5992) | (rw [(st_case hS n24)] at g5992; cases g5992) | (rw [hd] at g5992; cases g5992) | (rw [f8] at g5992; cases g5992) | (rw [hrv] at g5992; cases g5992) | skip
    refine zSiload (m := 1) (k := 1) vr_74_12 rfl rfl rfl (fun x5993 e5993 => ?_)
    cases e5993
    refine zLaald vr_74_13 rfl (fun p5994 x5994 w5994 e5994 f5994 c5994 t5994 g5994 => ?_)
    cases e5994
    cases f5994
    first | (rw [hcc] at g5994; cases g5994) | (rw [(st_16_8 kc.1)] at g5994; cases g5994) | (rw [(st_case hS n24)] at g5994; cases g5994) | (rw [hd] at g5994; cases g5994) | (rw [f8] at g5994; cases g5994) | (rw [hrv] at g5994; cases g5994) | skip
    refine zSastore (m := 1) (k := 2) vr_74_14 rfl rfl ?_
    show zL zrx zi _ 74 15 [(2, _), (0, _), (1, _)] [] _ _ _
    refine zSaload (m := 1) (k := 2) vr_74_15 rfl rfl rfl ?_
    refine zLget vr_74_16 rfl (fun p5997 w5997 e5997 t5997 g5997 => ?_)
    cases e5997
    first | (rw [hcc] at g5997; cases g5997) | (rw [(st_16_8 kc.1)] at g5997; cases g5997) | (rw [(st_case hS n24)] at g5997; cases g5997) | (rw [hd] at g5997; cases g5997) | (rw [f8] at g5997; cases g5997) | (rw [hrv] at g5997; cases g5997) | skip
    refine zSp0 (pc' := 20) (st' := .int (-1) :: _) vr_74_19 rfl rfl ?_
    refine zSb2 (f := fun x y => decide (x = y)) (off := 7) (t := 27) vr_74_20 rfl rfl rfl (fun x5999 y5999 e5999 f5999 q5999 => ?_) (fun x5999 y5999 e5999 f5999 q5999 => ?_)
    · cases e5999
      cases f5999
      have c5999 := of_decide_eq_true q5999
      refine zSp0 (pc' := 28) (st' := .int (0) :: _) vr_74_27 rfl rfl ?_
      refine zScall vr_74_28 rfl rfl rfl (fun m _ => C_needState _ _ _ _) (fun v h u q => absurd rfl q.2.2) (fun E h3 u q => ?_)
      obtain ⟨rfl, -, q2⟩ := q
      rw [zCat_no vh_74_28_2]
      exact ⟨q2, Or.inr ⟨rfl, r1, fun z => z ((iv_of g5997).trans c5999)⟩⟩
    · cases e5999
      cases f5999
      have c5999 := ndc q5999
      refine zSp0 (pc' := 24) (st' := .int (1) :: _) vr_74_23 rfl rfl ?_
      refine zSgo (t := 28) vr_74_24 rfl rfl ?_
      refine zScall vr_74_28 rfl rfl rfl (fun m6002 _ => C_needState _ _ _ _) (fun v6002 h6002 u6002 q6002 => ?_) (fun E6002 h6002 u6002 q6002 => ?_)
      · obtain ⟨eh6002, rfl, -⟩ := q6002
        replace eh6002 := eh6002.symm
        subst eh6002
        show zL zrx zi _ 74 31 [(2, _), (0, _), (1, _)] [] _ _ _
        refine zSaload (m := 1) (k := 0) vr_74_31 rfl rfl rfl ?_
        refine zSaload (m := 1) (k := 2) vr_74_32 rfl rfl rfl ?_
        refine zSaload (m := 1) (k := 2) vr_74_33 rfl rfl rfl ?_
        refine zLget vr_74_34 rfl (fun p6006 w6006 e6006 t6006 g6006 => ?_)
        cases e6006
        first | (rw [hcc] at g6006; cases g6006) | (rw [(st_16_8 kc.1)] at g6006; cases g6006) | (rw [(st_case hS n24)] at g6006; cases g6006) | (rw [hd] at g6006; cases g6006) | (rw [f8] at g6006; cases g6006) | (rw [hrv] at g6006; cases g6006) | skip
        refine zScall vr_74_37 rfl rfl rfl (fun m6007 _ => C_kT _ _ _ _ _ kc ci) (fun v6007 h6007 u6007 q6007 => ?_) (fun E6007 h6007 u6007 q6007 => ?_)
        · obtain ⟨eh6007, z6007⟩ := q6007
          replace eh6007 := eh6007.symm
          subst eh6007
          cases z6007
          show zL zrx zi _ 74 40 [(2, _), (0, _), (1, _)] [_] _ _ _
          refine zSistore (m := 1) (k := 3) vr_74_40 rfl rfl (fun x6008 e6008 => ?_)
          cases e6008
          show zL zrx zi _ 74 41 [(3, _), (2, _), (0, _), (1, _)] [] _ _ _
          refine zSaload (m := 1) (k := 2) vr_74_41 rfl rfl rfl ?_
          refine zLget vr_74_42 rfl (fun p6010 w6010 e6010 t6010 g6010 => ?_)
          cases e6010
          first | (rw [hcc] at g6010; cases g6010) | (rw [(st_16_8 kc.1)] at g6010; cases g6010) | (rw [(st_case hS n24)] at g6010; cases g6010) | (rw [hd] at g6010; cases g6010) | (rw [f8] at g6010; cases g6010) | (rw [hrv] at g6010; cases g6010) | skip
          refine zSiload (m := 1) (k := 3) vr_74_45 rfl rfl rfl (fun x6011 e6011 => ?_)
          cases e6011
          refine zSb2 (f := fun x y => decide (x = y)) (off := 18) (t := 64) vr_74_46 rfl rfl rfl (fun x6012 y6012 e6012 f6012 q6012 => ?_) (fun x6012 y6012 e6012 f6012 q6012 => ?_)
          · cases e6012
            cases f6012
            have c6012 := of_decide_eq_true q6012
            refine zSaload (m := 1) (k := 2) vr_74_64 rfl rfl rfl ?_
            refine zLget vr_74_65 rfl (fun p6014 w6014 e6014 t6014 g6014 => ?_)
            cases e6014
            first | (rw [hcc] at g6014; cases g6014) | (rw [(st_16_8 kc.1)] at g6014; cases g6014) | (rw [(st_case hS n24)] at g6014; cases g6014) | (rw [hd] at g6014; cases g6014) | (rw [f8] at g6014; cases g6014) | (rw [hrv] at g6014; cases g6014) | skip
            refine zLiret vr_74_68 rfl (fun x6015 e6015 => ?_)
            cases e6015
            exact ⟨⟨r1, fun z => c5999 ((iv_of g5997).symm.trans z)⟩, by rw [ed, ← c6012, ← iv_of g6010, ← iv_of g6014], Or.inl ⟨by rw [ed, iv_of g6010]; exact c6012, rfl⟩⟩
          · cases e6012
            cases f6012
            have c6012 := ndc q6012
            refine zSaload (m := 1) (k := 2) vr_74_49 rfl rfl rfl ?_
            refine zSiload (m := 1) (k := 3) vr_74_50 rfl rfl rfl (fun x6017 e6017 => ?_)
            cases e6017
            refine zLput vr_74_51 rfl (fun p6018 k6018 e6018 t6018 g6018 => ?_)
            cases e6018
            have f8 : gF k6018 (189 + x.toNatClampNeg) 8 = _ := (g6018.2.1 _ 8).trans (if_pos ⟨rfl, rfl⟩)
            have hrv : gF k6018 16 2 = some (.int rv) := (g6018.2.1 16 2).trans ((if_neg (by omega)).trans hr2)
            refine zSaload (m := 1) (k := 0) vr_74_54 rfl rfl rfl ?_
            refine zSdup vr_74_55 rfl ?_
            refine zLget vr_74_56 rfl (fun p6021 w6021 e6021 t6021 g6021 => ?_)
            cases e6021
            first | (rw [hcc] at g6021; cases g6021) | (rw [(st_16_8 kc.1)] at g6021; cases g6021) | (rw [(st_case hS n24)] at g6021; cases g6021) | (rw [hd] at g6021; cases g6021) | (rw [f8] at g6021; cases g6021) | (rw [hrv] at g6021; cases g6021) | skip
            refine zSp0 (pc' := 60) (st' := .int (1) :: _) vr_74_59 rfl rfl ?_
            refine zS2 (f := fun x y => .int (x + y)) vr_74_60 rfl rfl (fun x6023 y6023 e6023 f6023 => ?_)
            cases e6023
            cases f6023
            refine zLput vr_74_61 rfl (fun p6024 k6024 e6024 t6024 g6024 => ?_)
            cases e6024
            have f8 : gF k6024 (189 + x.toNatClampNeg) 8 = _ := (g6024.2.1 _ 8).trans ((if_neg (by omega)).trans f8)
            refine zSaload (m := 1) (k := 2) vr_74_64 rfl rfl rfl ?_
            refine zLget vr_74_65 rfl (fun p6026 w6026 e6026 t6026 g6026 => ?_)
            cases e6026
            first | (rw [hcc] at g6026; cases g6026) | (rw [(st_16_8 kc.1)] at g6026; cases g6026) | (rw [(st_case hS n24)] at g6026; cases g6026) | (rw [hd] at g6026; cases g6026) | (rw [f8] at g6026; cases g6026) | (rw [hrv] at g6026; cases g6026) | skip
            refine zLiret vr_74_68 rfl (fun x6027 e6027 => ?_)
            cases e6027
            have g51 := g6018
            rw [← ed] at g51
            exact ⟨⟨r1, fun z => c5999 ((iv_of g5997).symm.trans z)⟩, by rw [ed], Or.inr ⟨by rw [ed, iv_of g6010]; exact c6012, _, g51, g6024⟩⟩
        · obtain ⟨-, z⟩ := q6007
          cases z
      · obtain ⟨-, z, -⟩ := q6002
        exact absurd z (by decide)
  · obtain ⟨rfl, q1, q2⟩ := q5990
    rw [zCat_no vh_74_5_0]
    exact ⟨q2, Or.inl ⟨rfl, q1⟩⟩
abbrev Q_Lappeal (ex : Nat → Nat → Bool) (gen : Nat → Bool) (cnt cr cc : Int32) (rv : Int32) (x : Int32) (h : List zC) : zK := fun o h2 _ => ∃ k : Int32, o = .inl (some (.int k)) ∧
  ((k = 0 ∧ ((iN cc.toInt x) ∧ ¬ iv h (189 + x.toNatClampNeg) 7 = -1) ∧ ∃ h3 : List zC, ((iv h (189 + x.toNatClampNeg) 8 = kT h cnt cr ex gen (189 + x.toNatClampNeg) (iv h (189 + x.toNatClampNeg) 6) ∧ h3 = h) ∨ (¬ iv h (189 + x.toNatClampNeg) 8 = kT h cnt cr ex gen (189 + x.toNatClampNeg) (iv h (189 + x.toNatClampNeg) 6) ∧ ∃ h1 : List zC, hPut h h1 (189 + x.toNatClampNeg) 8 (.int (kT h cnt cr ex gen (189 + x.toNatClampNeg) (iv h (189 + x.toNatClampNeg) 6))) ∧ hPut h1 h3 16 2 (.int (rv + 1)))) ∧ hPut h3 h2 238 0 (.long (kT h cnt cr ex gen (189 + x.toNatClampNeg) (iv h (189 + x.toNatClampNeg) 6)).toInt64)) ∨ (k = 1 ∧ ¬ (iN cc.toInt x) ∧ hExt h h2) ∨ (k = 2 ∧ (iN cc.toInt x) ∧ ¬ (¬ iv h (189 + x.toNatClampNeg) 7 = -1) ∧ hExt h h2))
theorem C_Lappeal (n : Nat) (x : Int32) (h : List zC) (u : Nat) {cnt cr : Int32} {ex : Nat → Nat → Bool} {gen : Nat → Bool} (kc : kC h cnt cr ex gen) {cc : Int32} (hcc : gF h 16 3 = some (.int cc)) (c24 : cc.toInt ≤ 24) (hcd : ∀ k, k < cc.toNatClampNeg → CI h (189 + k)) {rv : Int32} (hr2 : gF h 16 2 = some (.int rv)) : zL zrx zi n 225 0 [(0, .ref 16), (1, .int x), (2, .ref 238)] [] h u (Q_Lappeal ex gen cnt cr cc rv x h) := by
  refine zSaload (m := 1) (k := 2) vr_225_0 rfl rfl rfl ?_
  refine zSaload (m := 1) (k := 0) vr_225_1 rfl rfl rfl ?_
  refine zSiload (m := 1) (k := 1) vr_225_2 rfl rfl rfl (fun x6030 e6030 => ?_)
  cases e6030
  refine zScall vr_225_3 rfl rfl rfl (fun m6031 _ => C_appeal _ _ _ _ kc hcc c24 hcd hr2) (fun v6031 h6031 u6031 q6031 => ?_) (fun E6031 h6031 u6031 q6031 => ?_)
  · obtain ⟨k1, z6031, k2⟩ := q6031
    cases z6031
    show zL zrx zi _ 225 6 [(0, _), (1, _), (2, _)] [_, _] _ _ _
    refine zS1 (f := fun x => .long x.toInt64) vr_225_6 rfl rfl (fun x6032 e6032 => ?_)
    cases e6032
    refine zLput vr_225_7 rfl (fun p6033 k6033 e6033 t6033 g6033 => ?_)
    cases e6033
    have gP := g6033
    refine zSgo (t := 19) vr_225_10 rfl rfl ?_
    refine zSp0 (pc' := 20) (st' := .int (0) :: _) vr_225_19 rfl rfl ?_
    refine zLiret vr_225_20 rfl (fun x6036 e6036 => ?_)
    cases e6036
    exact ⟨_, rfl, Or.inl ⟨rfl, k1, _, k2, gP⟩⟩
  · obtain ⟨q1, ⟨rfl, z⟩ | ⟨rfl, z⟩⟩ := q6031
    · rw [zCat_hit (k := 3) (m := 1) vh_225_3_0 vr_225_13 rfl (by decide)]
      show zL zrx zi _ 225 14 [(0, _), (1, _), (2, _)] [] _ _ _
      refine zSp0 (pc' := 15) (st' := .int (1) :: _) vr_225_14 rfl rfl ?_
      refine zLiret vr_225_15 rfl (fun x6038 e6038 => ?_)
      cases e6038
      exact ⟨_, rfl, Or.inr (Or.inl ⟨rfl, z, q1⟩)⟩
    · rw [zCat_hit (k := 3) (m := 1) vh_225_3_2 vr_225_16 rfl (by decide)]
      show zL zrx zi _ 225 17 [(0, _), (1, _), (2, _)] [] _ _ _
      refine zSp0 (pc' := 18) (st' := .int (2) :: _) vr_225_17 rfl rfl ?_
      refine zLiret vr_225_18 rfl (fun x6040 e6040 => ?_)
      cases e6040
      exact ⟨_, rfl, Or.inr (Or.inr ⟨rfl, z.1, z.2, q1⟩)⟩

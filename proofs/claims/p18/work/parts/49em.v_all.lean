/-! ===== values: all, 10 ===== -/
theorem vr_1_0 : zrx 1 0 = some (.aload_n 0, 0, 0) := by decide +kernel
theorem vr_1_1 : zrx 1 1 = some (.getfield 22, 3, 3) := by decide +kernel
theorem vr_1_4 : zrx 1 4 = some (.iconst (-1), 0, 0) := by decide +kernel
theorem vr_1_5 : zrx 1 5 = some (.if_icmp .eq 31, 0, 0) := by decide +kernel
theorem vr_1_8 : zrx 1 8 = some (.iload_n 1, 0, 0) := by decide +kernel
theorem vr_1_9 : zrx 1 9 = some (.aload_n 0, 0, 0) := by decide +kernel
theorem vr_1_10 : zrx 1 10 = some (.getfield 22, 3, 3) := by decide +kernel
theorem vr_1_13 : zrx 1 13 = some (.if_icmp .lt 23, 0, 0) := by decide +kernel
theorem vr_1_16 : zrx 1 16 = some (.aload_n 0, 0, 0) := by decide +kernel
theorem vr_1_17 : zrx 1 17 = some (.getfield 25, 3, 4) := by decide +kernel
theorem vr_1_20 : zrx 1 20 = some (.iconst (-1), 0, 0) := by decide +kernel
theorem vr_1_21 : zrx 1 21 = some (.if_icmp .eq 11, 0, 0) := by decide +kernel
theorem vr_1_24 : zrx 1 24 = some (.iload_n 1, 0, 0) := by decide +kernel
theorem vr_1_25 : zrx 1 25 = some (.aload_n 0, 0, 0) := by decide +kernel
theorem vr_1_26 : zrx 1 26 = some (.getfield 25, 3, 4) := by decide +kernel
theorem vr_1_29 : zrx 1 29 = some (.if_icmp .ge 7, 0, 0) := by decide +kernel
theorem vr_1_32 : zrx 1 32 = some (.iconst 1, 0, 0) := by decide +kernel
theorem vr_1_33 : zrx 1 33 = some (.goto 4, 0, 0) := by decide +kernel
theorem vr_1_36 : zrx 1 36 = some (.iconst 0, 0, 0) := by decide +kernel
theorem vr_1_37 : zrx 1 37 = some (.ireturn, 0, 0) := by decide +kernel
theorem vr_5_0 : zrx 5 0 = some (.aload_n 1, 0, 0) := by decide +kernel
theorem vr_5_1 : zrx 5 1 = some (.getfield 40, 7, 3) := by decide +kernel
theorem vr_5_4 : zrx 5 4 = some (.aload_n 0, 0, 0) := by decide +kernel
theorem vr_5_5 : zrx 5 5 = some (.getfield 45, 4, 0) := by decide +kernel
theorem vr_5_8 : zrx 5 8 = some (.if_icmp .ne 72, 0, 0) := by decide +kernel
theorem vr_5_11 : zrx 5 11 = some (.aload_n 0, 0, 0) := by decide +kernel
theorem vr_5_12 : zrx 5 12 = some (.getfield 46, 4, 1) := by decide +kernel
theorem vr_5_15 : zrx 5 15 = some (.aload_n 1, 0, 0) := by decide +kernel
theorem vr_5_16 : zrx 5 16 = some (.getfield 49, 7, 2) := by decide +kernel
theorem vr_5_19 : zrx 5 19 = some (.ishr, 0, 0) := by decide +kernel
theorem vr_5_20 : zrx 5 20 = some (.iconst 1, 0, 0) := by decide +kernel
theorem vr_5_21 : zrx 5 21 = some (.iand, 0, 0) := by decide +kernel
theorem vr_5_22 : zrx 5 22 = some (.iconst 1, 0, 0) := by decide +kernel
theorem vr_5_23 : zrx 5 23 = some (.if_icmp .ne 57, 0, 0) := by decide +kernel
theorem vr_5_26 : zrx 5 26 = some (.aload_n 1, 0, 0) := by decide +kernel
theorem vr_5_27 : zrx 5 27 = some (.getfield 52, 7, 4) := by decide +kernel
theorem vr_5_30 : zrx 5 30 = some (.aload_n 0, 0, 0) := by decide +kernel
theorem vr_5_31 : zrx 5 31 = some (.getfield 55, 4, 2) := by decide +kernel
theorem vr_5_34 : zrx 5 34 = some (.iand, 0, 0) := by decide +kernel
theorem vr_5_35 : zrx 5 35 = some (.aload_n 0, 0, 0) := by decide +kernel
theorem vr_5_36 : zrx 5 36 = some (.getfield 55, 4, 2) := by decide +kernel
theorem vr_5_39 : zrx 5 39 = some (.if_icmp .ne 41, 0, 0) := by decide +kernel
theorem vr_5_42 : zrx 5 42 = some (.aload_n 1, 0, 0) := by decide +kernel
theorem vr_5_43 : zrx 5 43 = some (.getfield 52, 7, 4) := by decide +kernel
theorem vr_5_46 : zrx 5 46 = some (.aload_n 0, 0, 0) := by decide +kernel
theorem vr_5_47 : zrx 5 47 = some (.getfield 58, 4, 3) := by decide +kernel
theorem vr_5_50 : zrx 5 50 = some (.iand, 0, 0) := by decide +kernel
theorem vr_5_51 : zrx 5 51 = some (.ifCond .ne 29, 0, 0) := by decide +kernel
theorem vr_5_54 : zrx 5 54 = some (.aload_n 1, 0, 0) := by decide +kernel
theorem vr_5_55 : zrx 5 55 = some (.getfield 61, 7, 5) := by decide +kernel
theorem vr_5_58 : zrx 5 58 = some (.aload_n 0, 0, 0) := by decide +kernel
theorem vr_5_59 : zrx 5 59 = some (.getfield 9, 4, 4) := by decide +kernel
theorem vr_5_62 : zrx 5 62 = some (.if_icmp .lt 18, 0, 0) := by decide +kernel
theorem vr_5_65 : zrx 5 65 = some (.aload_n 1, 0, 0) := by decide +kernel
theorem vr_5_66 : zrx 5 66 = some (.getfield 61, 7, 5) := by decide +kernel
theorem vr_5_69 : zrx 5 69 = some (.aload_n 0, 0, 0) := by decide +kernel
theorem vr_5_70 : zrx 5 70 = some (.getfield 15, 4, 5) := by decide +kernel
theorem vr_5_73 : zrx 5 73 = some (.if_icmp .gt 7, 0, 0) := by decide +kernel
theorem vr_5_76 : zrx 5 76 = some (.iconst 1, 0, 0) := by decide +kernel
theorem vr_5_77 : zrx 5 77 = some (.goto 4, 0, 0) := by decide +kernel
theorem vr_5_80 : zrx 5 80 = some (.iconst 0, 0, 0) := by decide +kernel
theorem vr_5_81 : zrx 5 81 = some (.ireturn, 0, 0) := by decide +kernel
theorem vr_12_0 : zrx 12 0 = some (.iconst 0, 0, 0) := by decide +kernel
theorem vr_12_1 : zrx 12 1 = some (.istore_n 2, 0, 0) := by decide +kernel
theorem vr_12_2 : zrx 12 2 = some (.iconst 0, 0, 0) := by decide +kernel
theorem vr_12_3 : zrx 12 3 = some (.istore_n 3, 0, 0) := by decide +kernel
theorem vr_12_4 : zrx 12 4 = some (.iload_n 3, 0, 0) := by decide +kernel
theorem vr_12_5 : zrx 12 5 = some (.aload_n 0, 0, 0) := by decide +kernel
theorem vr_12_6 : zrx 12 6 = some (.getfield 28, 5, 2) := by decide +kernel
theorem vr_12_9 : zrx 12 9 = some (.if_icmp .ge 28, 0, 0) := by decide +kernel
theorem vr_12_12 : zrx 12 12 = some (.aload_n 0, 0, 0) := by decide +kernel
theorem vr_12_13 : zrx 12 13 = some (.getfield 11, 5, 0) := by decide +kernel
theorem vr_12_16 : zrx 12 16 = some (.iload_n 3, 0, 0) := by decide +kernel
theorem vr_12_17 : zrx 12 17 = some (.aaload, 0, 0) := by decide +kernel
theorem vr_12_18 : zrx 12 18 = some (.iload_n 1, 0, 0) := by decide +kernel
theorem vr_12_19 : zrx 12 19 = some (.invokevirtual 61, 1, 40) := by decide +kernel
theorem vr_12_22 : zrx 12 22 = some (.ifCond .eq 9, 0, 0) := by decide +kernel
theorem vr_12_25 : zrx 12 25 = some (.iload_n 2, 0, 0) := by decide +kernel
theorem vr_12_26 : zrx 12 26 = some (.iconst 1, 0, 0) := by decide +kernel
theorem vr_12_27 : zrx 12 27 = some (.iload_n 3, 0, 0) := by decide +kernel
theorem vr_12_28 : zrx 12 28 = some (.ishl, 0, 0) := by decide +kernel
theorem vr_12_29 : zrx 12 29 = some (.ior, 0, 0) := by decide +kernel
theorem vr_12_30 : zrx 12 30 = some (.istore_n 2, 0, 0) := by decide +kernel
theorem vr_12_31 : zrx 12 31 = some (.iinc 3 1, 0, 0) := by decide +kernel
theorem vr_12_34 : zrx 12 34 = some (.goto (-30), 0, 0) := by decide +kernel
theorem vr_12_37 : zrx 12 37 = some (.iload_n 2, 0, 0) := by decide +kernel
theorem vr_12_38 : zrx 12 38 = some (.ireturn, 0, 0) := by decide +kernel
theorem vr_13_0 : zrx 13 0 = some (.aload_n 0, 0, 0) := by decide +kernel
theorem vr_13_1 : zrx 13 1 = some (.iload_n 1, 0, 0) := by decide +kernel
theorem vr_13_2 : zrx 13 2 = some (.aload_n 2, 0, 0) := by decide +kernel
theorem vr_13_3 : zrx 13 3 = some (.invokevirtual 65, 15, 60) := by decide +kernel
theorem vr_13_6 : zrx 13 6 = some (.istore 4, 0, 0) := by decide +kernel
theorem vr_13_8 : zrx 13 8 = some (.iload 4, 0, 0) := by decide +kernel
theorem vr_13_10 : zrx 13 10 = some (.aload_n 0, 0, 0) := by decide +kernel
theorem vr_13_11 : zrx 13 11 = some (.getfield 41, 5, 3) := by decide +kernel
theorem vr_13_14 : zrx 13 14 = some (.iand, 0, 0) := by decide +kernel
theorem vr_13_15 : zrx 13 15 = some (.ifCond .ne 5, 0, 0) := by decide +kernel
theorem vr_13_18 : zrx 13 18 = some (.iconst (-1), 0, 0) := by decide +kernel
theorem vr_13_19 : zrx 13 19 = some (.ireturn, 0, 0) := by decide +kernel
theorem vr_13_20 : zrx 13 20 = some (.iload_n 1, 0, 0) := by decide +kernel
theorem vr_13_21 : zrx 13 21 = some (.aload_n 0, 0, 0) := by decide +kernel
theorem vr_13_22 : zrx 13 22 = some (.getfield 44, 5, 4) := by decide +kernel
theorem vr_13_25 : zrx 13 25 = some (.iand, 0, 0) := by decide +kernel
theorem vr_13_26 : zrx 13 26 = some (.ifCond .ne 7, 0, 0) := by decide +kernel
theorem vr_13_29 : zrx 13 29 = some (.iconst (-1), 0, 0) := by decide +kernel
theorem vr_13_30 : zrx 13 30 = some (.goto 12, 0, 0) := by decide +kernel
theorem vr_13_33 : zrx 13 33 = some (.aload_n 0, 0, 0) := by decide +kernel
theorem vr_13_34 : zrx 13 34 = some (.getfield 17, 5, 1) := by decide +kernel
theorem vr_13_37 : zrx 13 37 = some (.aload_n 2, 0, 0) := by decide +kernel
theorem vr_13_38 : zrx 13 38 = some (.iload_n 3, 0, 0) := by decide +kernel
theorem vr_13_39 : zrx 13 39 = some (.invokevirtual 69, 20, 70) := by decide +kernel
theorem vr_13_42 : zrx 13 42 = some (.istore 5, 0, 0) := by decide +kernel
theorem vr_13_44 : zrx 13 44 = some (.aload_n 0, 0, 0) := by decide +kernel
theorem vr_13_45 : zrx 13 45 = some (.iload 4, 0, 0) := by decide +kernel
theorem vr_13_47 : zrx 13 47 = some (.aload_n 0, 0, 0) := by decide +kernel
theorem vr_13_48 : zrx 13 48 = some (.getfield 41, 5, 3) := by decide +kernel
theorem vr_13_51 : zrx 13 51 = some (.iand, 0, 0) := by decide +kernel
theorem vr_13_52 : zrx 13 52 = some (.iload_n 1, 0, 0) := by decide +kernel
theorem vr_13_53 : zrx 13 53 = some (.iload 4, 0, 0) := by decide +kernel
theorem vr_13_55 : zrx 13 55 = some (.iload 5, 0, 0) := by decide +kernel
theorem vr_13_57 : zrx 13 57 = some (.iconst 0, 0, 0) := by decide +kernel
theorem vr_13_58 : zrx 13 58 = some (.iconst 0, 0, 0) := by decide +kernel
theorem vr_13_59 : zrx 13 59 = some (.invokevirtual 75, 16, 60) := by decide +kernel
theorem vr_13_62 : zrx 13 62 = some (.ireturn, 0, 0) := by decide +kernel
theorem vr_14_0 : zrx 14 0 = some (.aload_n 0, 0, 0) := by decide +kernel
theorem vr_14_1 : zrx 14 1 = some (.getfield 17, 5, 1) := by decide +kernel
theorem vr_14_4 : zrx 14 4 = some (.aload_n 3, 0, 0) := by decide +kernel
theorem vr_14_5 : zrx 14 5 = some (.iload 4, 0, 0) := by decide +kernel
theorem vr_14_7 : zrx 14 7 = some (.invokevirtual 69, 20, 70) := by decide +kernel
theorem vr_14_10 : zrx 14 10 = some (.istore 5, 0, 0) := by decide +kernel
theorem vr_14_12 : zrx 14 12 = some (.aload_n 0, 0, 0) := by decide +kernel
theorem vr_14_13 : zrx 14 13 = some (.iload_n 1, 0, 0) := by decide +kernel
theorem vr_14_14 : zrx 14 14 = some (.iload_n 2, 0, 0) := by decide +kernel
theorem vr_14_15 : zrx 14 15 = some (.aload_n 0, 0, 0) := by decide +kernel
theorem vr_14_16 : zrx 14 16 = some (.iload_n 2, 0, 0) := by decide +kernel
theorem vr_14_17 : zrx 14 17 = some (.aload_n 3, 0, 0) := by decide +kernel
theorem vr_14_18 : zrx 14 18 = some (.invokevirtual 65, 15, 60) := by decide +kernel
theorem vr_14_21 : zrx 14 21 = some (.iload 5, 0, 0) := by decide +kernel
theorem vr_14_23 : zrx 14 23 = some (.iconst 0, 0, 0) := by decide +kernel
theorem vr_14_24 : zrx 14 24 = some (.iconst 0, 0, 0) := by decide +kernel
theorem vr_14_25 : zrx 14 25 = some (.invokevirtual 79, 17, 60) := by decide +kernel
theorem vr_14_28 : zrx 14 28 = some (.ireturn, 0, 0) := by decide +kernel
theorem vr_15_0 : zrx 15 0 = some (.iconst 0, 0, 0) := by decide +kernel
theorem vr_15_1 : zrx 15 1 = some (.istore_n 3, 0, 0) := by decide +kernel
theorem vr_15_2 : zrx 15 2 = some (.iconst 0, 0, 0) := by decide +kernel
theorem vr_15_3 : zrx 15 3 = some (.istore 4, 0, 0) := by decide +kernel
theorem vr_15_5 : zrx 15 5 = some (.iload 4, 0, 0) := by decide +kernel
theorem vr_15_7 : zrx 15 7 = some (.aload_n 0, 0, 0) := by decide +kernel
theorem vr_15_8 : zrx 15 8 = some (.getfield 28, 5, 2) := by decide +kernel
theorem vr_15_11 : zrx 15 11 = some (.if_icmp .ge 43, 0, 0) := by decide +kernel
theorem vr_15_14 : zrx 15 14 = some (.iload_n 1, 0, 0) := by decide +kernel
theorem vr_15_15 : zrx 15 15 = some (.iload 4, 0, 0) := by decide +kernel
theorem vr_15_17 : zrx 15 17 = some (.ishr, 0, 0) := by decide +kernel
theorem vr_15_18 : zrx 15 18 = some (.iconst 1, 0, 0) := by decide +kernel
theorem vr_15_19 : zrx 15 19 = some (.iand, 0, 0) := by decide +kernel
theorem vr_15_20 : zrx 15 20 = some (.iconst 1, 0, 0) := by decide +kernel
theorem vr_15_21 : zrx 15 21 = some (.if_icmp .ne 27, 0, 0) := by decide +kernel
theorem vr_15_24 : zrx 15 24 = some (.aload_n 0, 0, 0) := by decide +kernel
theorem vr_15_25 : zrx 15 25 = some (.getfield 11, 5, 0) := by decide +kernel
theorem vr_15_28 : zrx 15 28 = some (.iload 4, 0, 0) := by decide +kernel
theorem vr_15_30 : zrx 15 30 = some (.aaload, 0, 0) := by decide +kernel
theorem vr_15_31 : zrx 15 31 = some (.getfield 24, 3, 1) := by decide +kernel
theorem vr_15_34 : zrx 15 34 = some (.aload_n 2, 0, 0) := by decide +kernel
theorem vr_15_35 : zrx 15 35 = some (.invokevirtual 82, 5, 50) := by decide +kernel
theorem vr_15_38 : zrx 15 38 = some (.ifCond .eq 10, 0, 0) := by decide +kernel
theorem vr_15_41 : zrx 15 41 = some (.iload_n 3, 0, 0) := by decide +kernel
theorem vr_15_42 : zrx 15 42 = some (.iconst 1, 0, 0) := by decide +kernel
theorem vr_15_43 : zrx 15 43 = some (.iload 4, 0, 0) := by decide +kernel
theorem vr_15_45 : zrx 15 45 = some (.ishl, 0, 0) := by decide +kernel
theorem vr_15_46 : zrx 15 46 = some (.ior, 0, 0) := by decide +kernel
theorem vr_15_47 : zrx 15 47 = some (.istore_n 3, 0, 0) := by decide +kernel
theorem vr_15_48 : zrx 15 48 = some (.iinc 4 1, 0, 0) := by decide +kernel
theorem vr_15_51 : zrx 15 51 = some (.goto (-46), 0, 0) := by decide +kernel
theorem vr_15_54 : zrx 15 54 = some (.iload_n 3, 0, 0) := by decide +kernel
theorem vr_15_55 : zrx 15 55 = some (.ireturn, 0, 0) := by decide +kernel
theorem vr_16_0 : zrx 16 0 = some (.bipush (-4), 0, 0) := by decide +kernel
theorem vr_16_2 : zrx 16 2 = some (.istore 7, 0, 0) := by decide +kernel
theorem vr_16_4 : zrx 16 4 = some (.iconst 0, 0, 0) := by decide +kernel
theorem vr_16_5 : zrx 16 5 = some (.istore 8, 0, 0) := by decide +kernel
theorem vr_16_7 : zrx 16 7 = some (.iload 8, 0, 0) := by decide +kernel
theorem vr_16_9 : zrx 16 9 = some (.aload_n 0, 0, 0) := by decide +kernel
theorem vr_16_10 : zrx 16 10 = some (.getfield 28, 5, 2) := by decide +kernel
theorem vr_16_13 : zrx 16 13 = some (.if_icmp .ge 65, 0, 0) := by decide +kernel
theorem vr_16_16 : zrx 16 16 = some (.iload_n 1, 0, 0) := by decide +kernel
theorem vr_16_17 : zrx 16 17 = some (.iload 8, 0, 0) := by decide +kernel
theorem vr_16_19 : zrx 16 19 = some (.ishr, 0, 0) := by decide +kernel
theorem vr_16_20 : zrx 16 20 = some (.iconst 1, 0, 0) := by decide +kernel
theorem vr_16_21 : zrx 16 21 = some (.iand, 0, 0) := by decide +kernel
theorem vr_16_22 : zrx 16 22 = some (.ifCond .ne 6, 0, 0) := by decide +kernel
theorem vr_16_25 : zrx 16 25 = some (.goto 47, 0, 0) := by decide +kernel
theorem vr_16_28 : zrx 16 28 = some (.aload_n 0, 0, 0) := by decide +kernel
theorem vr_16_29 : zrx 16 29 = some (.iload 8, 0, 0) := by decide +kernel
theorem vr_16_31 : zrx 16 31 = some (.iload_n 2, 0, 0) := by decide +kernel
theorem vr_16_32 : zrx 16 32 = some (.iload_n 3, 0, 0) := by decide +kernel
theorem vr_16_33 : zrx 16 33 = some (.iload 4, 0, 0) := by decide +kernel
theorem vr_16_35 : zrx 16 35 = some (.iload 5, 0, 0) := by decide +kernel
theorem vr_16_37 : zrx 16 37 = some (.iload 6, 0, 0) := by decide +kernel
theorem vr_16_39 : zrx 16 39 = some (.invokevirtual 79, 17, 60) := by decide +kernel
theorem vr_16_42 : zrx 16 42 = some (.istore 9, 0, 0) := by decide +kernel
theorem vr_16_44 : zrx 16 44 = some (.iload 9, 0, 0) := by decide +kernel
theorem vr_16_46 : zrx 16 46 = some (.bipush (-2), 0, 0) := by decide +kernel
theorem vr_16_48 : zrx 16 48 = some (.if_icmp .eq 17, 0, 0) := by decide +kernel
theorem vr_16_51 : zrx 16 51 = some (.iload 7, 0, 0) := by decide +kernel
theorem vr_16_53 : zrx 16 53 = some (.bipush (-4), 0, 0) := by decide +kernel
theorem vr_16_55 : zrx 16 55 = some (.if_icmp .eq 13, 0, 0) := by decide +kernel
theorem vr_16_58 : zrx 16 58 = some (.iload 9, 0, 0) := by decide +kernel
theorem vr_16_60 : zrx 16 60 = some (.iload 7, 0, 0) := by decide +kernel
theorem vr_16_62 : zrx 16 62 = some (.if_icmp .eq 6, 0, 0) := by decide +kernel
theorem vr_16_65 : zrx 16 65 = some (.bipush (-2), 0, 0) := by decide +kernel
theorem vr_16_67 : zrx 16 67 = some (.ireturn, 0, 0) := by decide +kernel
theorem vr_16_68 : zrx 16 68 = some (.iload 9, 0, 0) := by decide +kernel
theorem vr_16_70 : zrx 16 70 = some (.istore 7, 0, 0) := by decide +kernel
theorem vr_16_72 : zrx 16 72 = some (.iinc 8 1, 0, 0) := by decide +kernel
theorem vr_16_75 : zrx 16 75 = some (.goto (-68), 0, 0) := by decide +kernel
theorem vr_16_78 : zrx 16 78 = some (.iload 7, 0, 0) := by decide +kernel
theorem vr_16_80 : zrx 16 80 = some (.bipush (-4), 0, 0) := by decide +kernel
theorem vr_16_82 : zrx 16 82 = some (.if_icmp .ne 7, 0, 0) := by decide +kernel
theorem vr_16_85 : zrx 16 85 = some (.iconst (-1), 0, 0) := by decide +kernel
theorem vr_16_86 : zrx 16 86 = some (.goto 5, 0, 0) := by decide +kernel
theorem vr_16_89 : zrx 16 89 = some (.iload 7, 0, 0) := by decide +kernel
theorem vr_16_91 : zrx 16 91 = some (.ireturn, 0, 0) := by decide +kernel
theorem vr_17_0 : zrx 17 0 = some (.iload_n 1, 0, 0) := by decide +kernel
theorem vr_17_1 : zrx 17 1 = some (.ifCond .lt 28, 0, 0) := by decide +kernel
theorem vr_17_4 : zrx 17 4 = some (.iload_n 1, 0, 0) := by decide +kernel
theorem vr_17_5 : zrx 17 5 = some (.aload_n 0, 0, 0) := by decide +kernel
theorem vr_17_6 : zrx 17 6 = some (.getfield 28, 5, 2) := by decide +kernel
theorem vr_17_9 : zrx 17 9 = some (.if_icmp .ge 20, 0, 0) := by decide +kernel
theorem vr_17_12 : zrx 17 12 = some (.iload 6, 0, 0) := by decide +kernel
theorem vr_17_14 : zrx 17 14 = some (.bipush 24, 0, 0) := by decide +kernel
theorem vr_17_16 : zrx 17 16 = some (.if_icmp .gt 13, 0, 0) := by decide +kernel
theorem vr_17_19 : zrx 17 19 = some (.iload 5, 0, 0) := by decide +kernel
theorem vr_17_21 : zrx 17 21 = some (.iload_n 1, 0, 0) := by decide +kernel
theorem vr_17_22 : zrx 17 22 = some (.ishr, 0, 0) := by decide +kernel
theorem vr_17_23 : zrx 17 23 = some (.iconst 1, 0, 0) := by decide +kernel
theorem vr_17_24 : zrx 17 24 = some (.iand, 0, 0) := by decide +kernel
theorem vr_17_25 : zrx 17 25 = some (.iconst 1, 0, 0) := by decide +kernel
theorem vr_17_26 : zrx 17 26 = some (.if_icmp .ne 6, 0, 0) := by decide +kernel
theorem vr_17_29 : zrx 17 29 = some (.bipush (-3), 0, 0) := by decide +kernel
theorem vr_17_31 : zrx 17 31 = some (.ireturn, 0, 0) := by decide +kernel
theorem vr_17_32 : zrx 17 32 = some (.aload_n 0, 0, 0) := by decide +kernel
theorem vr_17_33 : zrx 17 33 = some (.getfield 11, 5, 0) := by decide +kernel
theorem vr_17_36 : zrx 17 36 = some (.iload_n 1, 0, 0) := by decide +kernel
theorem vr_17_37 : zrx 17 37 = some (.aaload, 0, 0) := by decide +kernel
theorem vr_17_38 : zrx 17 38 = some (.astore 7, 0, 0) := by decide +kernel
theorem vr_17_40 : zrx 17 40 = some (.iload 5, 0, 0) := by decide +kernel
theorem vr_17_42 : zrx 17 42 = some (.iconst 1, 0, 0) := by decide +kernel
theorem vr_17_43 : zrx 17 43 = some (.iload_n 1, 0, 0) := by decide +kernel
theorem vr_17_44 : zrx 17 44 = some (.ishl, 0, 0) := by decide +kernel
theorem vr_17_45 : zrx 17 45 = some (.ior, 0, 0) := by decide +kernel
theorem vr_17_46 : zrx 17 46 = some (.istore 8, 0, 0) := by decide +kernel
theorem vr_17_48 : zrx 17 48 = some (.aload 7, 0, 0) := by decide +kernel
theorem vr_17_50 : zrx 17 50 = some (.getfield 47, 3, 5) := by decide +kernel
theorem vr_17_53 : zrx 17 53 = some (.iload_n 3, 0, 0) := by decide +kernel
theorem vr_17_54 : zrx 17 54 = some (.iand, 0, 0) := by decide +kernel
theorem vr_17_55 : zrx 17 55 = some (.istore 9, 0, 0) := by decide +kernel
theorem vr_17_57 : zrx 17 57 = some (.iload 9, 0, 0) := by decide +kernel
theorem vr_17_59 : zrx 17 59 = some (.ifCond .eq 20, 0, 0) := by decide +kernel
theorem vr_17_62 : zrx 17 62 = some (.aload_n 0, 0, 0) := by decide +kernel
theorem vr_17_63 : zrx 17 63 = some (.iload 9, 0, 0) := by decide +kernel
theorem vr_17_65 : zrx 17 65 = some (.iload_n 2, 0, 0) := by decide +kernel
theorem vr_17_66 : zrx 17 66 = some (.iload_n 3, 0, 0) := by decide +kernel
theorem vr_17_67 : zrx 17 67 = some (.iload 4, 0, 0) := by decide +kernel
theorem vr_17_69 : zrx 17 69 = some (.iload 8, 0, 0) := by decide +kernel
theorem vr_17_71 : zrx 17 71 = some (.iload 6, 0, 0) := by decide +kernel
theorem vr_17_73 : zrx 17 73 = some (.iconst 1, 0, 0) := by decide +kernel
theorem vr_17_74 : zrx 17 74 = some (.iadd, 0, 0) := by decide +kernel
theorem vr_17_75 : zrx 17 75 = some (.invokevirtual 75, 16, 60) := by decide +kernel
theorem vr_17_78 : zrx 17 78 = some (.ireturn, 0, 0) := by decide +kernel
theorem vr_17_79 : zrx 17 79 = some (.aload 7, 0, 0) := by decide +kernel
theorem vr_17_81 : zrx 17 81 = some (.getfield 24, 3, 1) := by decide +kernel
theorem vr_17_84 : zrx 17 84 = some (.getfield 55, 4, 6) := by decide +kernel
theorem vr_17_87 : zrx 17 87 = some (.istore 10, 0, 0) := by decide +kernel
theorem vr_17_89 : zrx 17 89 = some (.iload 10, 0, 0) := by decide +kernel
theorem vr_17_91 : zrx 17 91 = some (.ifCond .lt 6, 0, 0) := by decide +kernel
theorem vr_17_94 : zrx 17 94 = some (.iload 10, 0, 0) := by decide +kernel
theorem vr_17_96 : zrx 17 96 = some (.ireturn, 0, 0) := by decide +kernel
theorem vr_17_97 : zrx 17 97 = some (.iload 10, 0, 0) := by decide +kernel
theorem vr_17_99 : zrx 17 99 = some (.iconst (-1), 0, 0) := by decide +kernel
theorem vr_17_100 : zrx 17 100 = some (.if_icmp .ne 6, 0, 0) := by decide +kernel
theorem vr_17_103 : zrx 17 103 = some (.iload 4, 0, 0) := by decide +kernel
theorem vr_17_105 : zrx 17 105 = some (.ireturn, 0, 0) := by decide +kernel
theorem vr_17_106 : zrx 17 106 = some (.bipush (-2), 0, 0) := by decide +kernel
theorem vr_17_108 : zrx 17 108 = some (.iload 10, 0, 0) := by decide +kernel
theorem vr_17_110 : zrx 17 110 = some (.isub, 0, 0) := by decide +kernel
theorem vr_17_111 : zrx 17 111 = some (.istore 11, 0, 0) := by decide +kernel
theorem vr_17_113 : zrx 17 113 = some (.iload_n 2, 0, 0) := by decide +kernel
theorem vr_17_114 : zrx 17 114 = some (.iload 11, 0, 0) := by decide +kernel
theorem vr_17_116 : zrx 17 116 = some (.ishr, 0, 0) := by decide +kernel
theorem vr_17_117 : zrx 17 117 = some (.iconst 1, 0, 0) := by decide +kernel
theorem vr_17_118 : zrx 17 118 = some (.iand, 0, 0) := by decide +kernel
theorem vr_17_119 : zrx 17 119 = some (.ifCond .ne 5, 0, 0) := by decide +kernel
theorem vr_17_122 : zrx 17 122 = some (.iconst (-1), 0, 0) := by decide +kernel
theorem vr_17_123 : zrx 17 123 = some (.ireturn, 0, 0) := by decide +kernel
theorem vr_17_124 : zrx 17 124 = some (.aload_n 0, 0, 0) := by decide +kernel
theorem vr_17_125 : zrx 17 125 = some (.iload 11, 0, 0) := by decide +kernel
theorem vr_17_127 : zrx 17 127 = some (.iload_n 2, 0, 0) := by decide +kernel
theorem vr_17_128 : zrx 17 128 = some (.iload_n 3, 0, 0) := by decide +kernel
theorem vr_17_129 : zrx 17 129 = some (.iload 4, 0, 0) := by decide +kernel
theorem vr_17_131 : zrx 17 131 = some (.iload 8, 0, 0) := by decide +kernel
theorem vr_17_133 : zrx 17 133 = some (.iload 6, 0, 0) := by decide +kernel
theorem vr_17_135 : zrx 17 135 = some (.iconst 1, 0, 0) := by decide +kernel
theorem vr_17_136 : zrx 17 136 = some (.iadd, 0, 0) := by decide +kernel
theorem vr_17_137 : zrx 17 137 = some (.invokevirtual 79, 17, 60) := by decide +kernel
theorem vr_17_140 : zrx 17 140 = some (.ireturn, 0, 0) := by decide +kernel
theorem vr_20_0 : zrx 20 0 = some (.aload_n 0, 0, 0) := by decide +kernel
theorem vr_20_1 : zrx 20 1 = some (.getfield 17, 6, 1) := by decide +kernel
theorem vr_20_4 : zrx 20 4 = some (.aload_n 1, 0, 0) := by decide +kernel
theorem vr_20_5 : zrx 20 5 = some (.getfield 39, 7, 3) := by decide +kernel
theorem vr_20_8 : zrx 20 8 = some (.iaload, 0, 0) := by decide +kernel
theorem vr_20_9 : zrx 20 9 = some (.istore_n 3, 0, 0) := by decide +kernel
theorem vr_20_10 : zrx 20 10 = some (.iload_n 3, 0, 0) := by decide +kernel
theorem vr_20_11 : zrx 20 11 = some (.ifCond .ne 14, 0, 0) := by decide +kernel
theorem vr_20_14 : zrx 20 14 = some (.aload_n 0, 0, 0) := by decide +kernel
theorem vr_20_15 : zrx 20 15 = some (.aload_n 1, 0, 0) := by decide +kernel
theorem vr_20_16 : zrx 20 16 = some (.getfield 44, 7, 0) := by decide +kernel
theorem vr_20_19 : zrx 20 19 = some (.aload_n 1, 0, 0) := by decide +kernel
theorem vr_20_20 : zrx 20 20 = some (.iload_n 2, 0, 0) := by decide +kernel
theorem vr_20_21 : zrx 20 21 = some (.invokevirtual 47, 19, 70) := by decide +kernel
theorem vr_20_24 : zrx 20 24 = some (.ireturn, 0, 0) := by decide +kernel
theorem vr_20_25 : zrx 20 25 = some (.aload_n 0, 0, 0) := by decide +kernel
theorem vr_20_26 : zrx 20 26 = some (.aload_n 1, 0, 0) := by decide +kernel
theorem vr_20_27 : zrx 20 27 = some (.getfield 51, 7, 1) := by decide +kernel
theorem vr_20_30 : zrx 20 30 = some (.aload_n 1, 0, 0) := by decide +kernel
theorem vr_20_31 : zrx 20 31 = some (.iload_n 2, 0, 0) := by decide +kernel
theorem vr_20_32 : zrx 20 32 = some (.invokevirtual 47, 19, 70) := by decide +kernel
theorem vr_20_35 : zrx 20 35 = some (.istore 4, 0, 0) := by decide +kernel
theorem vr_20_37 : zrx 20 37 = some (.iload_n 3, 0, 0) := by decide +kernel
theorem vr_20_38 : zrx 20 38 = some (.iconst 1, 0, 0) := by decide +kernel
theorem vr_20_39 : zrx 20 39 = some (.if_icmp .ne 6, 0, 0) := by decide +kernel
theorem vr_20_42 : zrx 20 42 = some (.iload 4, 0, 0) := by decide +kernel
theorem vr_20_44 : zrx 20 44 = some (.ireturn, 0, 0) := by decide +kernel
theorem vr_20_45 : zrx 20 45 = some (.aload_n 0, 0, 0) := by decide +kernel
theorem vr_20_46 : zrx 20 46 = some (.aload_n 1, 0, 0) := by decide +kernel
theorem vr_20_47 : zrx 20 47 = some (.getfield 44, 7, 0) := by decide +kernel
theorem vr_20_50 : zrx 20 50 = some (.aload_n 1, 0, 0) := by decide +kernel
theorem vr_20_51 : zrx 20 51 = some (.iload_n 2, 0, 0) := by decide +kernel
theorem vr_20_52 : zrx 20 52 = some (.invokevirtual 47, 19, 70) := by decide +kernel
theorem vr_20_55 : zrx 20 55 = some (.iload 4, 0, 0) := by decide +kernel
theorem vr_20_57 : zrx 20 57 = some (.invokestatic 54, 21, 0) := by decide +kernel
theorem vr_20_60 : zrx 20 60 = some (.ireturn, 0, 0) := by decide +kernel
theorem vr_21_0 : zrx 21 0 = some (.iload_n 0, 0, 0) := by decide +kernel
theorem vr_21_1 : zrx 21 1 = some (.ifCond .lt 13, 0, 0) := by decide +kernel
theorem vr_21_4 : zrx 21 4 = some (.iload_n 1, 0, 0) := by decide +kernel
theorem vr_21_5 : zrx 21 5 = some (.ifCond .lt 9, 0, 0) := by decide +kernel
theorem vr_21_8 : zrx 21 8 = some (.iload_n 0, 0, 0) := by decide +kernel
theorem vr_21_9 : zrx 21 9 = some (.iload_n 1, 0, 0) := by decide +kernel
theorem vr_21_10 : zrx 21 10 = some (.invokestatic 58, 262, 0) := by decide +kernel
theorem vr_21_13 : zrx 21 13 = some (.ireturn, 0, 0) := by decide +kernel
theorem vr_21_14 : zrx 21 14 = some (.iload_n 0, 0, 0) := by decide +kernel
theorem vr_21_15 : zrx 21 15 = some (.ifCond .ge 7, 0, 0) := by decide +kernel
theorem vr_21_18 : zrx 21 18 = some (.iload_n 1, 0, 0) := by decide +kernel
theorem vr_21_19 : zrx 21 19 = some (.ifCond .lt 9, 0, 0) := by decide +kernel
theorem vr_21_22 : zrx 21 22 = some (.iload_n 0, 0, 0) := by decide +kernel
theorem vr_21_23 : zrx 21 23 = some (.iload_n 1, 0, 0) := by decide +kernel
theorem vr_21_24 : zrx 21 24 = some (.invokestatic 63, 261, 0) := by decide +kernel
theorem vr_21_27 : zrx 21 27 = some (.ireturn, 0, 0) := by decide +kernel
theorem vr_21_28 : zrx 21 28 = some (.iload_n 0, 0, 0) := by decide +kernel
theorem vr_21_29 : zrx 21 29 = some (.bipush (-2), 0, 0) := by decide +kernel
theorem vr_21_31 : zrx 21 31 = some (.if_icmp .eq 9, 0, 0) := by decide +kernel
theorem vr_21_34 : zrx 21 34 = some (.iload_n 1, 0, 0) := by decide +kernel
theorem vr_21_35 : zrx 21 35 = some (.bipush (-2), 0, 0) := by decide +kernel
theorem vr_21_37 : zrx 21 37 = some (.if_icmp .ne 8, 0, 0) := by decide +kernel
theorem vr_21_40 : zrx 21 40 = some (.bipush (-2), 0, 0) := by decide +kernel
theorem vr_21_42 : zrx 21 42 = some (.goto 4, 0, 0) := by decide +kernel
theorem vr_21_45 : zrx 21 45 = some (.iconst (-1), 0, 0) := by decide +kernel
theorem vr_21_46 : zrx 21 46 = some (.ireturn, 0, 0) := by decide +kernel
theorem vr_101_0 : zrx 101 0 = some (.aload_n 0, 0, 0) := by decide +kernel
theorem vr_101_1 : zrx 101 1 = some (.getfield 42, 13, 10) := by decide +kernel
theorem vr_101_4 : zrx 101 4 = some (.aload_n 0, 0, 0) := by decide +kernel
theorem vr_101_5 : zrx 101 5 = some (.getfield 42, 13, 10) := by decide +kernel
theorem vr_101_8 : zrx 101 8 = some (.iload_n 2, 0, 0) := by decide +kernel
theorem vr_101_9 : zrx 101 9 = some (.invokevirtual 248, 12, 60) := by decide +kernel
theorem vr_101_12 : zrx 101 12 = some (.aload_n 1, 0, 0) := by decide +kernel
theorem vr_101_13 : zrx 101 13 = some (.iload_n 2, 0, 0) := by decide +kernel
theorem vr_101_14 : zrx 101 14 = some (.invokevirtual 307, 13, 60) := by decide +kernel
theorem vr_101_17 : zrx 101 17 = some (.ireturn, 0, 0) := by decide +kernel
theorem C_aIF (n : Nat) (A : Nat) (d : Int32) (h : List zC) (u : Nat) : zL zrx zi n 1 0 [(0, .ref A), (1, .int d)] [] h u (fun o h2 _ => h2 = h ∧ o = .inl (some (.int (if foP (iv h A 3) (iv h A 4) d then 1 else 0)))) := by
  refine zSaload (m := 1) (k := 0) vr_1_0 rfl rfl rfl ?_
  refine zLget vr_1_1 rfl (fun p4758 w4758 e4758 t4758 g4758 => ?_)
  cases e4758
  refine zSp0 (pc' := 5) (st' := .int (-1) :: _) vr_1_4 rfl rfl ?_
  refine zSb2 (f := fun x y => decide (x = y)) (off := 31) (t := 36) vr_1_5 rfl rfl rfl (fun x4760 y4760 e4760 f4760 q4760 => ?_) (fun x4760 y4760 e4760 f4760 q4760 => ?_)
  · cases e4760
    cases f4760
    have c4760 := of_decide_eq_true q4760
    refine zSp0 (pc' := 37) (st' := .int (0) :: _) vr_1_36 rfl rfl ?_
    refine zLiret vr_1_37 rfl (fun x4762 e4762 => ?_)
    cases e4762
    exact ⟨rfl, congrArg (fun z : Int32 => Sum.inl (some (Value.int z))) (if_neg (fun z : foP (iv h A 3) (iv h A 4) d => z.1 ((iv_of g4758).trans c4760))).symm⟩
  · cases e4760
    cases f4760
    have c4760 := ndc q4760
    refine zSiload (m := 1) (k := 1) vr_1_8 rfl rfl rfl (fun x4763 e4763 => ?_)
    cases e4763
    refine zSaload (m := 1) (k := 0) vr_1_9 rfl rfl rfl ?_
    refine zLget vr_1_10 rfl (fun p4765 w4765 e4765 t4765 g4765 => ?_)
    cases e4765
    refine zSb2 (f := fun x y => decide (x < y)) (off := 23) (t := 36) vr_1_13 rfl rfl rfl (fun x4766 y4766 e4766 f4766 q4766 => ?_) (fun x4766 y4766 e4766 f4766 q4766 => ?_)
    · cases e4766
      cases f4766
      have c4766 := of_decide_eq_true q4766
      refine zSp0 (pc' := 37) (st' := .int (0) :: _) vr_1_36 rfl rfl ?_
      refine zLiret vr_1_37 rfl (fun x4768 e4768 => ?_)
      cases e4768
      exact ⟨rfl, congrArg (fun z : Int32 => Sum.inl (some (Value.int z))) (if_neg (fun z : foP (iv h A 3) (iv h A 4) d => absurd c4766 (Int32.not_lt.mpr (by rw [← iv_of g4765]; exact z.2.1)))).symm⟩
    · cases e4766
      cases f4766
      have c4766 := ndc q4766
      refine zSaload (m := 1) (k := 0) vr_1_16 rfl rfl rfl ?_
      refine zLget vr_1_17 rfl (fun p4770 w4770 e4770 t4770 g4770 => ?_)
      cases e4770
      refine zSp0 (pc' := 21) (st' := .int (-1) :: _) vr_1_20 rfl rfl ?_
      refine zSb2 (f := fun x y => decide (x = y)) (off := 11) (t := 32) vr_1_21 rfl rfl rfl (fun x4772 y4772 e4772 f4772 q4772 => ?_) (fun x4772 y4772 e4772 f4772 q4772 => ?_)
      · cases e4772
        cases f4772
        have c4772 := of_decide_eq_true q4772
        refine zSp0 (pc' := 33) (st' := .int (1) :: _) vr_1_32 rfl rfl ?_
        refine zSgo (t := 37) vr_1_33 rfl rfl ?_
        refine zLiret vr_1_37 rfl (fun x4775 e4775 => ?_)
        cases e4775
        exact ⟨rfl, congrArg (fun z : Int32 => Sum.inl (some (Value.int z))) (if_pos (show foP (iv h A 3) (iv h A 4) d from ⟨fun z => c4760 ((iv_of g4758).symm.trans z), by rw [iv_of g4765]; exact Int32.not_lt.mp c4766, Or.inl ((iv_of g4770).trans c4772)⟩)).symm⟩
      · cases e4772
        cases f4772
        have c4772 := ndc q4772
        refine zSiload (m := 1) (k := 1) vr_1_24 rfl rfl rfl (fun x4776 e4776 => ?_)
        cases e4776
        refine zSaload (m := 1) (k := 0) vr_1_25 rfl rfl rfl ?_
        refine zLget vr_1_26 rfl (fun p4778 w4778 e4778 t4778 g4778 => ?_)
        cases e4778
        refine zSb2 (f := fun x y => decide (y ≤ x)) (off := 7) (t := 36) vr_1_29 rfl rfl rfl (fun x4779 y4779 e4779 f4779 q4779 => ?_) (fun x4779 y4779 e4779 f4779 q4779 => ?_)
        · cases e4779
          cases f4779
          have c4779 := of_decide_eq_true q4779
          refine zSp0 (pc' := 37) (st' := .int (0) :: _) vr_1_36 rfl rfl ?_
          refine zLiret vr_1_37 rfl (fun x4781 e4781 => ?_)
          cases e4781
          exact ⟨rfl, congrArg (fun z : Int32 => Sum.inl (some (Value.int z))) (if_neg (fun z : foP (iv h A 3) (iv h A 4) d => by
            rcases z.2.2 with y | y
            · exact c4772 ((iv_of g4770).symm.trans y)
            · rw [iv_of g4778] at y
              exact absurd y (Int32.not_lt.mpr c4779))).symm⟩
        · cases e4779
          cases f4779
          have c4779 := ndc q4779
          refine zSp0 (pc' := 33) (st' := .int (1) :: _) vr_1_32 rfl rfl ?_
          refine zSgo (t := 37) vr_1_33 rfl rfl ?_
          refine zLiret vr_1_37 rfl (fun x4784 e4784 => ?_)
          cases e4784
          exact ⟨rfl, congrArg (fun z : Int32 => Sum.inl (some (Value.int z))) (if_pos (show foP (iv h A 3) (iv h A 4) d from ⟨fun z => c4760 ((iv_of g4758).symm.trans z), by rw [iv_of g4765]; exact Int32.not_lt.mp c4766, Or.inr (by rw [iv_of g4778]; exact Int32.not_le.mp c4779)⟩)).symm⟩
set_option maxRecDepth 20000 in
theorem C_ifo_loop {h : List zC} {cnt : Int32} (hS : Stc h) (hc : gF h 71 2 = some (.int cnt)) (h0 : 0 ≤ cnt.toInt) (h24 : cnt.toInt ≤ 24) {d : Int32} : ∀ (n k : Nat) (r : Int32) (u : Nat), k ≤ cnt.toNatClampNeg → bS (foC h d) k = r → zL zrx zi n 12 4 [(3, .int (Int32.ofNat k)), (2, .int r), (0, .ref 71), (1, .int d)] [] h u (fun o h2 _ => h2 = h ∧ o = .inl (some (.int (bS (foC h d) cnt.toNatClampNeg))))
  | 0, _, _, _ => fun _ _ => trivial
  | n + 1, k, r, u => fun hk hD => by
    have ck : cnt.toNatClampNeg = cnt.toInt.toNat := rfl
    have kk := (toNat_ofNat (m := k) (by omega))
    refine zLp vr_12_4 rfl rfl ?_
    refine zSaload (m := 1) (k := 0) vr_12_5 rfl rfl rfl ?_
    refine zLget vr_12_6 rfl (fun p4786 w4786 e4786 t4786 g4786 => ?_)
    cases e4786
    first | (rw [hc] at g4786; cases g4786) | (rw [(st_71_0 hS)] at g4786; cases g4786) | (rw [hI] at g4786; cases g4786) | skip
    refine zSb2 (f := fun x y => decide (y ≤ x)) (off := 28) (t := 37) vr_12_9 rfl rfl rfl (fun x4787 y4787 e4787 f4787 q4787 => ?_) (fun x4787 y4787 e4787 f4787 q4787 => ?_)
    · cases e4787
      cases f4787
      have c4787 := of_decide_eq_true q4787
      refine zSiload (m := 1) (k := 2) vr_12_37 rfl rfl rfl (fun x4788 e4788 => ?_)
      cases e4788
      refine zLiret vr_12_38 rfl (fun x4789 e4789 => ?_)
      cases e4789
      have y := c4787
      rw [i32_le, kk.2] at y
      have e : k = cnt.toNatClampNeg := by omega
      subst e
      rw [hD]
      exact ⟨rfl, rfl⟩
    · cases e4787
      cases f4787
      have c4787 := ndc q4787
      have hlt : k < cnt.toNatClampNeg := by
        have y := c4787
        rw [i32_le, kk.2] at y
        omega
      have hI : gF h 72 (Int32.ofNat k).toNatClampNeg = some (.ref (73 + 4 * k)) := by
        rw [kk.1]
        exact st_art hS (by omega)
      refine zSaload (m := 1) (k := 0) vr_12_12 rfl rfl rfl ?_
      refine zLget vr_12_13 rfl (fun p4791 w4791 e4791 t4791 g4791 => ?_)
      cases e4791
      first | (rw [hc] at g4791; cases g4791) | (rw [(st_71_0 hS)] at g4791; cases g4791) | (rw [hI] at g4791; cases g4791) | skip
      refine zSiload (m := 1) (k := 3) vr_12_16 rfl rfl rfl (fun x4792 e4792 => ?_)
      cases e4792
      refine zLaald vr_12_17 rfl (fun p4793 x4793 w4793 e4793 f4793 c4793 t4793 g4793 => ?_)
      cases e4793
      cases f4793
      first | (rw [hc] at g4793; cases g4793) | (rw [(st_71_0 hS)] at g4793; cases g4793) | (rw [hI] at g4793; cases g4793) | skip
      refine zSiload (m := 1) (k := 1) vr_12_18 rfl rfl rfl (fun x4794 e4794 => ?_)
      cases e4794
      refine zScall vr_12_19 rfl rfl rfl (fun m4795 _ => C_aIF _ _ _ _ _) (fun v4795 h4795 u4795 q4795 => ?_) (fun E4795 h4795 u4795 q4795 => ?_)
      · obtain ⟨eh4795, z4795⟩ := q4795
        replace eh4795 := eh4795.symm
        subst eh4795
        cases z4795
        show zL zrx zi _ 12 22 [(3, _), (2, _), (0, _), (1, _)] [_] _ _ _
        refine zSb1 (f := fun x => decide (x = 0)) (off := 9) (t := 31) vr_12_22 rfl rfl rfl (fun x4796 e4796 q4796 => ?_) (fun x4796 e4796 q4796 => ?_)
        · cases e4796
          have c4796 := of_decide_eq_true q4796
          refine zSiinc vr_12_31 rfl rfl (fun x4797 e4797 => ?_)
          cases e4797
          show zL zrx zi _ 12 34 [(3, _), (2, _), (0, _), (1, _)] [] _ _ _
          refine zSgo (t := 4) vr_12_34 rfl rfl ?_
          rw [ofNat_succ]
          have p : foC h d k = false := decide_eq_false (fun z => by
            have y := c4796
            rw [if_pos z] at y
            exact absurd y (by decide))
          refine zL_pm _ _ _ [(3, _), (2, _), (0, _), (1, _)] _ _ _ _ _ ⟨(List.forall_mem_cons.mpr ⟨List.mem_cons_self, (List.forall_mem_cons.mpr ⟨(List.mem_cons_of_mem _ List.mem_cons_self), (List.forall_mem_cons.mpr ⟨(List.mem_cons_of_mem _ (List.mem_cons_of_mem _ List.mem_cons_self)), (List.forall_mem_cons.mpr ⟨(List.mem_cons_of_mem _ (List.mem_cons_of_mem _ (List.mem_cons_of_mem _ List.mem_cons_self))), (fun _ h => absurd h List.not_mem_nil)⟩)⟩)⟩)⟩), show ([3, 2, 0, 1] : List Nat).Nodup by decide⟩ (C_ifo_loop hS hc h0 h24 n (k + 1) _ _ (by omega) ?_)
          rw [bS_n p, hD]
        · cases e4796
          have c4796 := ndc q4796
          refine zSiload (m := 1) (k := 2) vr_12_25 rfl rfl rfl (fun x4799 e4799 => ?_)
          cases e4799
          refine zSp0 (pc' := 27) (st' := .int (1) :: _) vr_12_26 rfl rfl ?_
          refine zSiload (m := 1) (k := 3) vr_12_27 rfl rfl rfl (fun x4801 e4801 => ?_)
          cases e4801
          refine zS2 (f := fun x y => .int (x <<< (y &&& 31))) vr_12_28 rfl rfl (fun x4802 y4802 e4802 f4802 => ?_)
          cases e4802
          cases f4802
          refine zS2 (f := fun x y => .int (x ||| y)) vr_12_29 rfl rfl (fun x4803 y4803 e4803 f4803 => ?_)
          cases e4803
          cases f4803
          refine zSistore (m := 1) (k := 2) vr_12_30 rfl rfl (fun x4804 e4804 => ?_)
          cases e4804
          show zL zrx zi _ 12 31 [(2, _), (3, _), (0, _), (1, _)] [] _ _ _
          refine zSiinc vr_12_31 rfl rfl (fun x4805 e4805 => ?_)
          cases e4805
          show zL zrx zi _ 12 34 [(3, _), (2, _), (0, _), (1, _)] [] _ _ _
          refine zSgo (t := 4) vr_12_34 rfl rfl ?_
          rw [ofNat_succ]
          have p : foC h d k = true := decide_eq_true (by
            by_cases z : foP (iv h (73 + 4 * k) 3) (iv h (73 + 4 * k) 4) d
            · exact z
            · have y := c4796
              rw [if_neg z] at y
              exact absurd rfl y)
          refine zL_pm _ _ _ [(3, _), (2, _), (0, _), (1, _)] _ _ _ _ _ ⟨(List.forall_mem_cons.mpr ⟨List.mem_cons_self, (List.forall_mem_cons.mpr ⟨(List.mem_cons_of_mem _ List.mem_cons_self), (List.forall_mem_cons.mpr ⟨(List.mem_cons_of_mem _ (List.mem_cons_of_mem _ List.mem_cons_self)), (List.forall_mem_cons.mpr ⟨(List.mem_cons_of_mem _ (List.mem_cons_of_mem _ (List.mem_cons_of_mem _ List.mem_cons_self))), (fun _ h => absurd h List.not_mem_nil)⟩)⟩)⟩)⟩), show ([3, 2, 0, 1] : List Nat).Nodup by decide⟩ (C_ifo_loop hS hc h0 h24 n (k + 1) _ _ (by omega) ?_)
          rw [bS_y p, hD]
      · obtain ⟨-, z⟩ := q4795
        cases z
theorem C_inForce (n : Nat) (d : Int32) (h : List zC) (u : Nat) {cnt : Int32} (hS : Stc h) (hc : gF h 71 2 = some (.int cnt)) (h0 : 0 ≤ cnt.toInt) (h24 : cnt.toInt ≤ 24) : zL zrx zi n 12 0 [(0, .ref 71), (1, .int d)] [] h u (fun o h2 _ => h2 = h ∧ o = .inl (some (.int (bS (foC h d) cnt.toNatClampNeg)))) := by
  refine zSp0 (pc' := 1) (st' := .int (0) :: _) vr_12_0 rfl rfl ?_
  refine zSistore (m := 1) (k := 2) vr_12_1 rfl rfl (fun x4808 e4808 => ?_)
  cases e4808
  show zL zrx zi _ 12 2 [(2, _), (0, _), (1, _)] [] _ _ _
  refine zSp0 (pc' := 3) (st' := .int (0) :: _) vr_12_2 rfl rfl ?_
  refine zSistore (m := 1) (k := 3) vr_12_3 rfl rfl (fun x4810 e4810 => ?_)
  cases e4810
  show zL zrx zi _ 12 4 [(3, _), (2, _), (0, _), (1, _)] [] _ _ _
  exact zL_pm _ _ _ [(3, _), (2, _), (0, _), (1, _)] _ _ _ _ _ ⟨(List.forall_mem_cons.mpr ⟨List.mem_cons_self, (List.forall_mem_cons.mpr ⟨(List.mem_cons_of_mem _ List.mem_cons_self), (List.forall_mem_cons.mpr ⟨(List.mem_cons_of_mem _ (List.mem_cons_of_mem _ List.mem_cons_self)), (List.forall_mem_cons.mpr ⟨(List.mem_cons_of_mem _ (List.mem_cons_of_mem _ (List.mem_cons_of_mem _ List.mem_cons_self))), (fun _ h => absurd h List.not_mem_nil)⟩)⟩)⟩)⟩), show ([3, 2, 0, 1] : List Nat).Nodup by decide⟩ (C_ifo_loop hS hc h0 h24 _ 0 0 _ (Nat.zero_le _) rfl)
theorem C_cFor (n : Nat) (C D : Nat) (h : List zC) (u : Nat) : zL zrx zi n 5 0 [(0, .ref C), (1, .ref D)] [] h u (fun o h2 _ => h2 = h ∧ o = .inl (some (.int (if okC (iv h C) (iv h D 3) (iv h D 2) (iv h D 4) (iv h D 5) then 1 else 0)))) := by
  refine zSaload (m := 1) (k := 1) vr_5_0 rfl rfl rfl ?_
  refine zLget vr_5_1 rfl (fun p4812 w4812 e4812 t4812 g4812 => ?_)
  cases e4812
  refine zSaload (m := 1) (k := 0) vr_5_4 rfl rfl rfl ?_
  refine zLget vr_5_5 rfl (fun p4814 w4814 e4814 t4814 g4814 => ?_)
  cases e4814
  refine zSb2 (f := fun x y => decide (¬ x = y)) (off := 72) (t := 80) vr_5_8 rfl rfl rfl (fun x4815 y4815 e4815 f4815 q4815 => ?_) (fun x4815 y4815 e4815 f4815 q4815 => ?_)
  · cases e4815
    cases f4815
    have c4815 := of_decide_eq_true q4815
    refine zSp0 (pc' := 81) (st' := .int (0) :: _) vr_5_80 rfl rfl ?_
    refine zLiret vr_5_81 rfl (fun x4817 e4817 => ?_)
    cases e4817
    exact ⟨rfl, congrArg (fun z : Int32 => Sum.inl (some (Value.int z))) (if_neg (fun z : okC (iv h C) (iv h D 3) (iv h D 2) (iv h D 4) (iv h D 5) => by
      have y := z.1
      rw [iv_of g4812, iv_of g4814] at y
      exact c4815 y)).symm⟩
  · cases e4815
    cases f4815
    have c4815 := ndc q4815
    refine zSaload (m := 1) (k := 0) vr_5_11 rfl rfl rfl ?_
    refine zLget vr_5_12 rfl (fun p4819 w4819 e4819 t4819 g4819 => ?_)
    cases e4819
    refine zSaload (m := 1) (k := 1) vr_5_15 rfl rfl rfl ?_
    refine zLget vr_5_16 rfl (fun p4821 w4821 e4821 t4821 g4821 => ?_)
    cases e4821
    refine zS2 (f := fun x y => .int (x >>> (y &&& 31))) vr_5_19 rfl rfl (fun x4822 y4822 e4822 f4822 => ?_)
    cases e4822
    cases f4822
    refine zSp0 (pc' := 21) (st' := .int (1) :: _) vr_5_20 rfl rfl ?_
    refine zS2 (f := fun x y => .int (x &&& y)) vr_5_21 rfl rfl (fun x4824 y4824 e4824 f4824 => ?_)
    cases e4824
    cases f4824
    refine zSp0 (pc' := 23) (st' := .int (1) :: _) vr_5_22 rfl rfl ?_
    refine zSb2 (f := fun x y => decide (¬ x = y)) (off := 57) (t := 80) vr_5_23 rfl rfl rfl (fun x4826 y4826 e4826 f4826 q4826 => ?_) (fun x4826 y4826 e4826 f4826 q4826 => ?_)
    · cases e4826
      cases f4826
      have c4826 := of_decide_eq_true q4826
      refine zSp0 (pc' := 81) (st' := .int (0) :: _) vr_5_80 rfl rfl ?_
      refine zLiret vr_5_81 rfl (fun x4828 e4828 => ?_)
      cases e4828
      exact ⟨rfl, congrArg (fun z : Int32 => Sum.inl (some (Value.int z))) (if_neg (fun z : okC (iv h C) (iv h D 3) (iv h D 2) (iv h D 4) (iv h D 5) => by
        have y := z.2.1
        rw [iv_of g4819, iv_of g4821] at y
        exact c4826 y)).symm⟩
    · cases e4826
      cases f4826
      have c4826 := ndc q4826
      refine zSaload (m := 1) (k := 1) vr_5_26 rfl rfl rfl ?_
      refine zLget vr_5_27 rfl (fun p4830 w4830 e4830 t4830 g4830 => ?_)
      cases e4830
      refine zSaload (m := 1) (k := 0) vr_5_30 rfl rfl rfl ?_
      refine zLget vr_5_31 rfl (fun p4832 w4832 e4832 t4832 g4832 => ?_)
      cases e4832
      refine zS2 (f := fun x y => .int (x &&& y)) vr_5_34 rfl rfl (fun x4833 y4833 e4833 f4833 => ?_)
      cases e4833
      cases f4833
      refine zSaload (m := 1) (k := 0) vr_5_35 rfl rfl rfl ?_
      refine zLget vr_5_36 rfl (fun p4835 w4835 e4835 t4835 g4835 => ?_)
      cases e4835
      refine zSb2 (f := fun x y => decide (¬ x = y)) (off := 41) (t := 80) vr_5_39 rfl rfl rfl (fun x4836 y4836 e4836 f4836 q4836 => ?_) (fun x4836 y4836 e4836 f4836 q4836 => ?_)
      · cases e4836
        cases f4836
        have c4836 := of_decide_eq_true q4836
        refine zSp0 (pc' := 81) (st' := .int (0) :: _) vr_5_80 rfl rfl ?_
        refine zLiret vr_5_81 rfl (fun x4838 e4838 => ?_)
        cases e4838
        exact ⟨rfl, congrArg (fun z : Int32 => Sum.inl (some (Value.int z))) (if_neg (fun z : okC (iv h C) (iv h D 3) (iv h D 2) (iv h D 4) (iv h D 5) => by
          have y := z.2.2.1
          rw [iv_of g4830, iv_of g4832] at y
          have e2 := (iv_of g4832).symm.trans (iv_of g4835)
          exact c4836 (by rw [← e2]; exact y))).symm⟩
      · cases e4836
        cases f4836
        have c4836 := ndc q4836
        refine zSaload (m := 1) (k := 1) vr_5_42 rfl rfl rfl ?_
        refine zLget vr_5_43 rfl (fun p4840 w4840 e4840 t4840 g4840 => ?_)
        cases e4840
        refine zSaload (m := 1) (k := 0) vr_5_46 rfl rfl rfl ?_
        refine zLget vr_5_47 rfl (fun p4842 w4842 e4842 t4842 g4842 => ?_)
        cases e4842
        refine zS2 (f := fun x y => .int (x &&& y)) vr_5_50 rfl rfl (fun x4843 y4843 e4843 f4843 => ?_)
        cases e4843
        cases f4843
        refine zSb1 (f := fun x => decide (¬ x = 0)) (off := 29) (t := 80) vr_5_51 rfl rfl rfl (fun x4844 e4844 q4844 => ?_) (fun x4844 e4844 q4844 => ?_)
        · cases e4844
          have c4844 := of_decide_eq_true q4844
          refine zSp0 (pc' := 81) (st' := .int (0) :: _) vr_5_80 rfl rfl ?_
          refine zLiret vr_5_81 rfl (fun x4846 e4846 => ?_)
          cases e4846
          exact ⟨rfl, congrArg (fun z : Int32 => Sum.inl (some (Value.int z))) (if_neg (fun z : okC (iv h C) (iv h D 3) (iv h D 2) (iv h D 4) (iv h D 5) => by
            have y := z.2.2.2.1
            rw [iv_of g4840, iv_of g4842] at y
            exact c4844 y)).symm⟩
        · cases e4844
          have c4844 := ndc q4844
          refine zSaload (m := 1) (k := 1) vr_5_54 rfl rfl rfl ?_
          refine zLget vr_5_55 rfl (fun p4848 w4848 e4848 t4848 g4848 => ?_)
          cases e4848
          refine zSaload (m := 1) (k := 0) vr_5_58 rfl rfl rfl ?_
          refine zLget vr_5_59 rfl (fun p4850 w4850 e4850 t4850 g4850 => ?_)
          cases e4850
          refine zSb2 (f := fun x y => decide (x < y)) (off := 18) (t := 80) vr_5_62 rfl rfl rfl (fun x4851 y4851 e4851 f4851 q4851 => ?_) (fun x4851 y4851 e4851 f4851 q4851 => ?_)
          · cases e4851
            cases f4851
            have c4851 := of_decide_eq_true q4851
            refine zSp0 (pc' := 81) (st' := .int (0) :: _) vr_5_80 rfl rfl ?_
            refine zLiret vr_5_81 rfl (fun x4853 e4853 => ?_)
            cases e4853
            exact ⟨rfl, congrArg (fun z : Int32 => Sum.inl (some (Value.int z))) (if_neg (fun z : okC (iv h C) (iv h D 3) (iv h D 2) (iv h D 4) (iv h D 5) => by
              have y := z.2.2.2.2.1
              rw [iv_of g4848, iv_of g4850] at y
              exact absurd c4851 (Int32.not_lt.mpr y))).symm⟩
          · cases e4851
            cases f4851
            have c4851 := ndc q4851
            refine zSaload (m := 1) (k := 1) vr_5_65 rfl rfl rfl ?_
            refine zLget vr_5_66 rfl (fun p4855 w4855 e4855 t4855 g4855 => ?_)
            cases e4855
            refine zSaload (m := 1) (k := 0) vr_5_69 rfl rfl rfl ?_
            refine zLget vr_5_70 rfl (fun p4857 w4857 e4857 t4857 g4857 => ?_)
            cases e4857
            refine zSb2 (f := fun x y => decide (y < x)) (off := 7) (t := 80) vr_5_73 rfl rfl rfl (fun x4858 y4858 e4858 f4858 q4858 => ?_) (fun x4858 y4858 e4858 f4858 q4858 => ?_)
            · cases e4858
              cases f4858
              have c4858 := of_decide_eq_true q4858
              refine zSp0 (pc' := 81) (st' := .int (0) :: _) vr_5_80 rfl rfl ?_
              refine zLiret vr_5_81 rfl (fun x4860 e4860 => ?_)
              cases e4860
              exact ⟨rfl, congrArg (fun z : Int32 => Sum.inl (some (Value.int z))) (if_neg (fun z : okC (iv h C) (iv h D 3) (iv h D 2) (iv h D 4) (iv h D 5) => by
                have y := z.2.2.2.2.2
                rw [iv_of g4855, iv_of g4857] at y
                exact absurd c4858 (Int32.not_lt.mpr y))).symm⟩
            · cases e4858
              cases f4858
              have c4858 := ndc q4858
              refine zSp0 (pc' := 77) (st' := .int (1) :: _) vr_5_76 rfl rfl ?_
              refine zSgo (t := 81) vr_5_77 rfl rfl ?_
              refine zLiret vr_5_81 rfl (fun x4863 e4863 => ?_)
              cases e4863
              have k0 : iv h D 3 = iv h C 0 := by rw [iv_of g4812, iv_of g4814]; exact Decidable.not_not.mp c4815
              have k1 : iv h C 1 >>> (iv h D 2 &&& 31) &&& 1 = 1 := by rw [iv_of g4819, iv_of g4821]; exact Decidable.not_not.mp c4826
              have k2 : iv h D 4 &&& iv h C 2 = iv h C 2 := by
                have e2 := (iv_of g4832).symm.trans (iv_of g4835)
                have e3 := Decidable.not_not.mp c4836
                rw [← e2] at e3
                rw [iv_of g4830, iv_of g4832]
                exact e3
              have k3 : iv h D 4 &&& iv h C 3 = 0 := by rw [iv_of g4840, iv_of g4842]; exact Decidable.not_not.mp c4844
              have k4 : iv h C 4 ≤ iv h D 5 := by rw [iv_of g4848, iv_of g4850]; exact Int32.not_lt.mp c4851
              have k5 : iv h D 5 ≤ iv h C 5 := by rw [iv_of g4855, iv_of g4857]; exact Int32.not_lt.mp c4858
              exact ⟨rfl, congrArg (fun z : Int32 => Sum.inl (some (Value.int z))) (if_pos (show okC (iv h C) (iv h D 3) (iv h D 2) (iv h D 4) (iv h D 5) from ⟨k0, k1, k2, k3, k4, k5⟩)).symm⟩
set_option maxRecDepth 20000 in
theorem C_app_loop {h : List zC} {cnt : Int32} (hS : Stc h) (hc : gF h 71 2 = some (.int cnt)) (h0 : 0 ≤ cnt.toInt) (h24 : cnt.toInt ≤ 24) (hCl : ∀ k, k < cnt.toNatClampNeg → ∃ C : Nat, gF h (73 + 4 * k) 1 = some (.ref C) ∧ 239 ≤ C) {P : Nat → Bool} {D : Nat} : ∀ (n k : Nat) (r : Int32) (u : Nat), k ≤ cnt.toNatClampNeg → bS (fun k => P k && apC h D k) k = r → zL zrx zi n 15 5 [(4, .int (Int32.ofNat k)), (3, .int r), (0, .ref 71), (1, .int (bS P cnt.toNatClampNeg)), (2, .ref D)] [] h u (fun o h2 _ => h2 = h ∧ o = .inl (some (.int (bS (fun k => P k && apC h D k) cnt.toNatClampNeg))))
  | 0, _, _, _ => fun _ _ => trivial
  | n + 1, k, r, u => fun hk hD => by
    have ck : cnt.toNatClampNeg = cnt.toInt.toNat := rfl
    have kk := (toNat_ofNat (m := k) (by omega))
    refine zLp vr_15_5 rfl rfl ?_
    refine zSaload (m := 1) (k := 0) vr_15_7 rfl rfl rfl ?_
    refine zLget vr_15_8 rfl (fun p4865 w4865 e4865 t4865 g4865 => ?_)
    cases e4865
    first | (rw [hc] at g4865; cases g4865) | (rw [(st_71_0 hS)] at g4865; cases g4865) | (rw [hI] at g4865; cases g4865) | (rw [hC] at g4865; cases g4865) | skip
    refine zSb2 (f := fun x y => decide (y ≤ x)) (off := 43) (t := 54) vr_15_11 rfl rfl rfl (fun x4866 y4866 e4866 f4866 q4866 => ?_) (fun x4866 y4866 e4866 f4866 q4866 => ?_)
    · cases e4866
      cases f4866
      have c4866 := of_decide_eq_true q4866
      refine zSiload (m := 1) (k := 3) vr_15_54 rfl rfl rfl (fun x4867 e4867 => ?_)
      cases e4867
      refine zLiret vr_15_55 rfl (fun x4868 e4868 => ?_)
      cases e4868
      have y := c4866
      rw [i32_le, kk.2] at y
      have e : k = cnt.toNatClampNeg := by omega
      subst e
      rw [hD]
      exact ⟨rfl, rfl⟩
    · cases e4866
      cases f4866
      have c4866 := ndc q4866
      have hlt : k < cnt.toNatClampNeg := by
        have y := c4866
        rw [i32_le, kk.2] at y
        omega
      have hI : gF h 72 (Int32.ofNat k).toNatClampNeg = some (.ref (73 + 4 * k)) := by
        rw [kk.1]
        exact st_art hS (by omega)
      obtain ⟨C, hC, lC⟩ := hCl k hlt
      have rC : rf h (73 + 4 * k) 1 = C := rf_of hC
      refine zSiload (m := 1) (k := 1) vr_15_14 rfl rfl rfl (fun x4869 e4869 => ?_)
      cases e4869
      refine zSiload (m := 2) (k := 4) vr_15_15 rfl rfl rfl (fun x4870 e4870 => ?_)
      cases e4870
      refine zS2 (f := fun x y => .int (x >>> (y &&& 31))) vr_15_17 rfl rfl (fun x4871 y4871 e4871 f4871 => ?_)
      cases e4871
      cases f4871
      refine zSp0 (pc' := 19) (st' := .int (1) :: _) vr_15_18 rfl rfl ?_
      refine zS2 (f := fun x y => .int (x &&& y)) vr_15_19 rfl rfl (fun x4873 y4873 e4873 f4873 => ?_)
      cases e4873
      cases f4873
      refine zSp0 (pc' := 21) (st' := .int (1) :: _) vr_15_20 rfl rfl ?_
      refine zSb2 (f := fun x y => decide (¬ x = y)) (off := 27) (t := 48) vr_15_21 rfl rfl rfl (fun x4875 y4875 e4875 f4875 q4875 => ?_) (fun x4875 y4875 e4875 f4875 q4875 => ?_)
      · cases e4875
        cases f4875
        have c4875 := of_decide_eq_true q4875
        refine zSiinc vr_15_48 rfl rfl (fun x4876 e4876 => ?_)
        cases e4876
        show zL zrx zi _ 15 51 [(4, _), (3, _), (0, _), (1, _), (2, _)] [] _ _ _
        refine zSgo (t := 5) vr_15_51 rfl rfl ?_
        rw [ofNat_succ]
        have p : (P k && apC h D k) = false := by
          rw [bS_tn (by omega) hlt c4875]
          rfl
        refine zL_pm _ _ _ [(4, _), (3, _), (0, _), (1, _), (2, _)] _ _ _ _ _ ⟨(List.forall_mem_cons.mpr ⟨List.mem_cons_self, (List.forall_mem_cons.mpr ⟨(List.mem_cons_of_mem _ List.mem_cons_self), (List.forall_mem_cons.mpr ⟨(List.mem_cons_of_mem _ (List.mem_cons_of_mem _ List.mem_cons_self)), (List.forall_mem_cons.mpr ⟨(List.mem_cons_of_mem _ (List.mem_cons_of_mem _ (List.mem_cons_of_mem _ List.mem_cons_self))), (List.forall_mem_cons.mpr ⟨(List.mem_cons_of_mem _ (List.mem_cons_of_mem _ (List.mem_cons_of_mem _ (List.mem_cons_of_mem _ List.mem_cons_self)))), (fun _ h => absurd h List.not_mem_nil)⟩)⟩)⟩)⟩)⟩), show ([4, 3, 0, 1, 2] : List Nat).Nodup by decide⟩ (C_app_loop hS hc h0 h24 hCl n (k + 1) _ _ (by omega) ?_)
        rw [bS_n (P := (fun k => P k && apC h D k)) p, hD]
      · cases e4875
        cases f4875
        have c4875 := ndc q4875
        refine zSaload (m := 1) (k := 0) vr_15_24 rfl rfl rfl ?_
        refine zLget vr_15_25 rfl (fun p4879 w4879 e4879 t4879 g4879 => ?_)
        cases e4879
        first | (rw [hc] at g4879; cases g4879) | (rw [(st_71_0 hS)] at g4879; cases g4879) | (rw [hI] at g4879; cases g4879) | (rw [hC] at g4879; cases g4879) | skip
        refine zSiload (m := 2) (k := 4) vr_15_28 rfl rfl rfl (fun x4880 e4880 => ?_)
        cases e4880
        refine zLaald vr_15_30 rfl (fun p4881 x4881 w4881 e4881 f4881 c4881 t4881 g4881 => ?_)
        cases e4881
        cases f4881
        first | (rw [hc] at g4881; cases g4881) | (rw [(st_71_0 hS)] at g4881; cases g4881) | (rw [hI] at g4881; cases g4881) | (rw [hC] at g4881; cases g4881) | skip
        refine zLget vr_15_31 rfl (fun p4882 w4882 e4882 t4882 g4882 => ?_)
        cases e4882
        first | (rw [hc] at g4882; cases g4882) | (rw [(st_71_0 hS)] at g4882; cases g4882) | (rw [hI] at g4882; cases g4882) | (rw [hC] at g4882; cases g4882) | skip
        refine zSaload (m := 1) (k := 2) vr_15_34 rfl rfl rfl ?_
        refine zScall vr_15_35 rfl rfl rfl (fun m4884 _ => C_cFor _ _ _ _ _) (fun v4884 h4884 u4884 q4884 => ?_) (fun E4884 h4884 u4884 q4884 => ?_)
        · obtain ⟨eh4884, z4884⟩ := q4884
          replace eh4884 := eh4884.symm
          subst eh4884
          cases z4884
          show zL zrx zi _ 15 38 [(4, _), (3, _), (0, _), (1, _), (2, _)] [_] _ _ _
          refine zSb1 (f := fun x => decide (x = 0)) (off := 10) (t := 48) vr_15_38 rfl rfl rfl (fun x4885 e4885 q4885 => ?_) (fun x4885 e4885 q4885 => ?_)
          · cases e4885
            have c4885 := of_decide_eq_true q4885
            refine zSiinc vr_15_48 rfl rfl (fun x4886 e4886 => ?_)
            cases e4886
            show zL zrx zi _ 15 51 [(4, _), (3, _), (0, _), (1, _), (2, _)] [] _ _ _
            refine zSgo (t := 5) vr_15_51 rfl rfl ?_
            rw [ofNat_succ]
            have pa : apC h D k = false := decide_eq_false (fun z => by
              have y := c4885
              rw [rC] at z
              rw [if_pos z] at y
              exact absurd y (by decide))
            have p : (P k && apC h D k) = false := by
              rw [pa, Bool.and_false]
            refine zL_pm _ _ _ [(4, _), (3, _), (0, _), (1, _), (2, _)] _ _ _ _ _ ⟨(List.forall_mem_cons.mpr ⟨List.mem_cons_self, (List.forall_mem_cons.mpr ⟨(List.mem_cons_of_mem _ List.mem_cons_self), (List.forall_mem_cons.mpr ⟨(List.mem_cons_of_mem _ (List.mem_cons_of_mem _ List.mem_cons_self)), (List.forall_mem_cons.mpr ⟨(List.mem_cons_of_mem _ (List.mem_cons_of_mem _ (List.mem_cons_of_mem _ List.mem_cons_self))), (List.forall_mem_cons.mpr ⟨(List.mem_cons_of_mem _ (List.mem_cons_of_mem _ (List.mem_cons_of_mem _ (List.mem_cons_of_mem _ List.mem_cons_self)))), (fun _ h => absurd h List.not_mem_nil)⟩)⟩)⟩)⟩)⟩), show ([4, 3, 0, 1, 2] : List Nat).Nodup by decide⟩ (C_app_loop hS hc h0 h24 hCl n (k + 1) _ _ (by omega) ?_)
            rw [bS_n (P := (fun k => P k && apC h D k)) p, hD]
          · cases e4885
            have c4885 := ndc q4885
            refine zSiload (m := 1) (k := 3) vr_15_41 rfl rfl rfl (fun x4888 e4888 => ?_)
            cases e4888
            refine zSp0 (pc' := 43) (st' := .int (1) :: _) vr_15_42 rfl rfl ?_
            refine zSiload (m := 2) (k := 4) vr_15_43 rfl rfl rfl (fun x4890 e4890 => ?_)
            cases e4890
            refine zS2 (f := fun x y => .int (x <<< (y &&& 31))) vr_15_45 rfl rfl (fun x4891 y4891 e4891 f4891 => ?_)
            cases e4891
            cases f4891
            refine zS2 (f := fun x y => .int (x ||| y)) vr_15_46 rfl rfl (fun x4892 y4892 e4892 f4892 => ?_)
            cases e4892
            cases f4892
            refine zSistore (m := 1) (k := 3) vr_15_47 rfl rfl (fun x4893 e4893 => ?_)
            cases e4893
            show zL zrx zi _ 15 48 [(3, _), (4, _), (0, _), (1, _), (2, _)] [] _ _ _
            refine zSiinc vr_15_48 rfl rfl (fun x4894 e4894 => ?_)
            cases e4894
            show zL zrx zi _ 15 51 [(4, _), (3, _), (0, _), (1, _), (2, _)] [] _ _ _
            refine zSgo (t := 5) vr_15_51 rfl rfl ?_
            rw [ofNat_succ]
            have pa : apC h D k = true := decide_eq_true (by
              rw [rC]
              by_cases z : okC (iv h C) (iv h D 3) (iv h D 2) (iv h D 4) (iv h D 5)
              · exact z
              · have y := c4885
                rw [if_neg z] at y
                exact absurd rfl y)
            have p : (P k && apC h D k) = true := by
              rw [pa, bS_ty (by omega) hlt (Decidable.not_not.mp c4875)]
              rfl
            refine zL_pm _ _ _ [(4, _), (3, _), (0, _), (1, _), (2, _)] _ _ _ _ _ ⟨(List.forall_mem_cons.mpr ⟨List.mem_cons_self, (List.forall_mem_cons.mpr ⟨(List.mem_cons_of_mem _ List.mem_cons_self), (List.forall_mem_cons.mpr ⟨(List.mem_cons_of_mem _ (List.mem_cons_of_mem _ List.mem_cons_self)), (List.forall_mem_cons.mpr ⟨(List.mem_cons_of_mem _ (List.mem_cons_of_mem _ (List.mem_cons_of_mem _ List.mem_cons_self))), (List.forall_mem_cons.mpr ⟨(List.mem_cons_of_mem _ (List.mem_cons_of_mem _ (List.mem_cons_of_mem _ (List.mem_cons_of_mem _ List.mem_cons_self)))), (fun _ h => absurd h List.not_mem_nil)⟩)⟩)⟩)⟩)⟩), show ([4, 3, 0, 1, 2] : List Nat).Nodup by decide⟩ (C_app_loop hS hc h0 h24 hCl n (k + 1) _ _ (by omega) ?_)
            rw [bS_y (P := (fun k => P k && apC h D k)) p, hD]
        · obtain ⟨-, z⟩ := q4884
          cases z
theorem C_applying (n : Nat) (P : Nat → Bool) (D : Nat) (h : List zC) (u : Nat) {cnt : Int32} (hS : Stc h) (hc : gF h 71 2 = some (.int cnt)) (h0 : 0 ≤ cnt.toInt) (h24 : cnt.toInt ≤ 24) (hCl : ∀ k, k < cnt.toNatClampNeg → ∃ C : Nat, gF h (73 + 4 * k) 1 = some (.ref C) ∧ 239 ≤ C) : zL zrx zi n 15 0 [(0, .ref 71), (1, .int (bS P cnt.toNatClampNeg)), (2, .ref D)] [] h u (fun o h2 _ => h2 = h ∧ o = .inl (some (.int (bS (fun k => P k && apC h D k) cnt.toNatClampNeg)))) := by
  refine zSp0 (pc' := 1) (st' := .int (0) :: _) vr_15_0 rfl rfl ?_
  refine zSistore (m := 1) (k := 3) vr_15_1 rfl rfl (fun x4897 e4897 => ?_)
  cases e4897
  show zL zrx zi _ 15 2 [(3, _), (0, _), (1, _), (2, _)] [] _ _ _
  refine zSp0 (pc' := 3) (st' := .int (0) :: _) vr_15_2 rfl rfl ?_
  refine zSistore (m := 2) (k := 4) vr_15_3 rfl rfl (fun x4899 e4899 => ?_)
  cases e4899
  show zL zrx zi _ 15 5 [(4, _), (3, _), (0, _), (1, _), (2, _)] [] _ _ _
  exact zL_pm _ _ _ [(4, _), (3, _), (0, _), (1, _), (2, _)] _ _ _ _ _ ⟨(List.forall_mem_cons.mpr ⟨List.mem_cons_self, (List.forall_mem_cons.mpr ⟨(List.mem_cons_of_mem _ List.mem_cons_self), (List.forall_mem_cons.mpr ⟨(List.mem_cons_of_mem _ (List.mem_cons_of_mem _ List.mem_cons_self)), (List.forall_mem_cons.mpr ⟨(List.mem_cons_of_mem _ (List.mem_cons_of_mem _ (List.mem_cons_of_mem _ List.mem_cons_self))), (List.forall_mem_cons.mpr ⟨(List.mem_cons_of_mem _ (List.mem_cons_of_mem _ (List.mem_cons_of_mem _ (List.mem_cons_of_mem _ List.mem_cons_self)))), (fun _ h => absurd h List.not_mem_nil)⟩)⟩)⟩)⟩)⟩), show ([4, 3, 0, 1, 2] : List Nat).Nodup by decide⟩ (C_app_loop hS hc h0 h24 hCl _ 0 0 _ (Nat.zero_le _) rfl)
set_option maxRecDepth 20000 in
theorem C_tAl_loop {h : List zC} {cnt : Int32} (hS : Stc h) (hc : gF h 71 2 = some (.int cnt)) (h0 : 0 ≤ cnt.toInt) (h24 : cnt.toInt ≤ 24) {ex : Nat → Nat → Bool} (hE : ∀ a, a < cnt.toNatClampNeg → gF h (73 + 4 * a) 5 = some (.int (bS (fun k => ex k a) cnt.toNatClampNeg))) (hO : ∀ k, k < cnt.toNatClampNeg → ¬ 0 ≤ clO h k → ¬ clO h k = -1 → (-2 - clO h k).toNatClampNeg < cnt.toNatClampNeg ∧ 0 ≤ (-2 - clO h k).toInt) (hO2 : ∀ k, k < cnt.toNatClampNeg → (clO h k).toInt ≤ 100) {A P : Nat → Bool} {cu : Int32} (hcu : rT cu) {S : Nat → Bool} {d : Nat} {op : Nat → Bool} {opn dep : Int32} (hop : ∀ j, j < cnt.toNatClampNeg → tb opn j = op j) (hd : dep.toInt = 25 - (d : Int)) (hd2 : d ≤ 25) {N : Nat} (IH : ∀ m, m ≤ N → tOne 17 h cnt.toNatClampNeg ex A P cu m) : ∀ (n : Nat), n ≤ N + 1 → ∀ (k : Nat) (t : Int32) (w : Value) (u : Nat), k ≤ cnt.toNatClampNeg → tlS S (fun k => tlT cnt.toNatClampNeg ex A P (clO h) cu d k op) k t → zL zrx zi n 16 7 [(8, .int (Int32.ofNat k)), (7, .int t), (0, .ref 71), (1, .int (bS S cnt.toNatClampNeg)), (2, .int (bS P cnt.toNatClampNeg)), (3, .int (bS A cnt.toNatClampNeg)), (4, .int cu), (5, .int opn), (6, .int dep), (9, w)] [] h u (fun o h2 _ => h2 = h ∧ o = .inl (some (.int (alT S (fun k => tlT cnt.toNatClampNeg ex A P (clO h) cu d k op) cnt.toNatClampNeg))))
  | 0, _, _, _, _, _ => fun _ _ => trivial
  | n + 1, hn, k, t, w, u => fun hk hD => by
    have ck : cnt.toNatClampNeg = cnt.toInt.toNat := rfl
    have kk := (toNat_ofNat (m := k) (by omega))
    refine zLp vr_16_7 rfl rfl ?_
    refine zSaload (m := 1) (k := 0) vr_16_9 rfl rfl rfl ?_
    refine zLget vr_16_10 rfl (fun p4901 w4901 e4901 t4901 g4901 => ?_)
    cases e4901
    first | (rw [hc] at g4901; cases g4901) | skip
    refine zSb2 (f := fun x y => decide (y ≤ x)) (off := 65) (t := 78) vr_16_13 rfl rfl rfl (fun x4902 y4902 e4902 f4902 q4902 => ?_) (fun x4902 y4902 e4902 f4902 q4902 => ?_)
    · cases e4902
      cases f4902
      have c4902 := of_decide_eq_true q4902
      refine zSiload (m := 2) (k := 7) vr_16_78 rfl rfl rfl (fun x4903 e4903 => ?_)
      cases e4903
      refine zSp0 (pc' := 82) (st' := .int (-4) :: _) vr_16_80 rfl rfl ?_
      refine zSb2 (f := fun x y => decide (¬ x = y)) (off := 7) (t := 89) vr_16_82 rfl rfl rfl (fun x4905 y4905 e4905 f4905 q4905 => ?_) (fun x4905 y4905 e4905 f4905 q4905 => ?_)
      · cases e4905
        cases f4905
        have c4905 := of_decide_eq_true q4905
        refine zSiload (m := 2) (k := 7) vr_16_89 rfl rfl rfl (fun x4906 e4906 => ?_)
        cases e4906
        refine zLiret vr_16_91 rfl (fun x4907 e4907 => ?_)
        cases e4907
        have y := c4902
        rw [i32_le, kk.2] at y
        have e : k = cnt.toNatClampNeg := by omega
        subst e
        exact ⟨rfl, congrArg (fun z : Int32 => Sum.inl (some (Value.int z))) (hD.end.trans (if_neg c4905)).symm⟩
      · cases e4905
        cases f4905
        have c4905 := ndc q4905
        refine zSp0 (pc' := 86) (st' := .int (-1) :: _) vr_16_85 rfl rfl ?_
        refine zSgo (t := 91) vr_16_86 rfl rfl ?_
        refine zLiret vr_16_91 rfl (fun x4910 e4910 => ?_)
        cases e4910
        have y := c4902
        rw [i32_le, kk.2] at y
        have e : k = cnt.toNatClampNeg := by omega
        subst e
        exact ⟨rfl, congrArg (fun z : Int32 => Sum.inl (some (Value.int z))) (hD.end.trans (if_pos (Decidable.not_not.mp c4905))).symm⟩
    · cases e4902
      cases f4902
      have c4902 := ndc q4902
      have hlt : k < cnt.toNatClampNeg := by
        have y := c4902
        rw [i32_le, kk.2] at y
        omega
      have rk : rT (tlT cnt.toNatClampNeg ex A P (clO h) cu d k op) := tlT_r hO2 (fun j hj a b => (hO j hj a b).1) hcu d k op hlt
      refine zSiload (m := 1) (k := 1) vr_16_16 rfl rfl rfl (fun x4911 e4911 => ?_)
      cases e4911
      refine zSiload (m := 2) (k := 8) vr_16_17 rfl rfl rfl (fun x4912 e4912 => ?_)
      cases e4912
      refine zS2 (f := fun x y => .int (x >>> (y &&& 31))) vr_16_19 rfl rfl (fun x4913 y4913 e4913 f4913 => ?_)
      cases e4913
      cases f4913
      refine zSp0 (pc' := 21) (st' := .int (1) :: _) vr_16_20 rfl rfl ?_
      refine zS2 (f := fun x y => .int (x &&& y)) vr_16_21 rfl rfl (fun x4915 y4915 e4915 f4915 => ?_)
      cases e4915
      cases f4915
      refine zSb1 (f := fun x => decide (¬ x = 0)) (off := 6) (t := 28) vr_16_22 rfl rfl rfl (fun x4916 e4916 q4916 => ?_) (fun x4916 e4916 q4916 => ?_)
      · cases e4916
        have c4916 := of_decide_eq_true q4916
        refine zSaload (m := 1) (k := 0) vr_16_28 rfl rfl rfl ?_
        refine zSiload (m := 2) (k := 8) vr_16_29 rfl rfl rfl (fun x4918 e4918 => ?_)
        cases e4918
        refine zSiload (m := 1) (k := 2) vr_16_31 rfl rfl rfl (fun x4919 e4919 => ?_)
        cases e4919
        refine zSiload (m := 1) (k := 3) vr_16_32 rfl rfl rfl (fun x4920 e4920 => ?_)
        cases e4920
        refine zSiload (m := 2) (k := 4) vr_16_33 rfl rfl rfl (fun x4921 e4921 => ?_)
        cases e4921
        refine zSiload (m := 2) (k := 5) vr_16_35 rfl rfl rfl (fun x4922 e4922 => ?_)
        cases e4922
        refine zSiload (m := 2) (k := 6) vr_16_37 rfl rfl rfl (fun x4923 e4923 => ?_)
        cases e4923
        refine zScall vr_16_39 rfl rfl rfl (fun m4924 _ => IH _ (by omega) k d op opn dep _ hlt hop hd hd2) (fun v4924 h4924 u4924 q4924 => ?_) (fun E4924 h4924 u4924 q4924 => ?_)
        · obtain ⟨eh4924, z4924⟩ := q4924
          replace eh4924 := eh4924.symm
          subst eh4924
          cases z4924
          show zL zrx zi _ 16 42 [(8, _), (7, _), (0, _), (1, _), (2, _), (3, _), (4, _), (5, _), (6, _), (9, _)] [_] _ _ _
          refine zSistore (m := 2) (k := 9) vr_16_42 rfl rfl (fun x4925 e4925 => ?_)
          cases e4925
          show zL zrx zi _ 16 44 [(9, _), (8, _), (7, _), (0, _), (1, _), (2, _), (3, _), (4, _), (5, _), (6, _)] [] _ _ _
          refine zSiload (m := 2) (k := 9) vr_16_44 rfl rfl rfl (fun x4926 e4926 => ?_)
          cases e4926
          refine zSp0 (pc' := 48) (st' := .int (-2) :: _) vr_16_46 rfl rfl ?_
          refine zSb2 (f := fun x y => decide (x = y)) (off := 17) (t := 65) vr_16_48 rfl rfl rfl (fun x4928 y4928 e4928 f4928 q4928 => ?_) (fun x4928 y4928 e4928 f4928 q4928 => ?_)
          · cases e4928
            cases f4928
            have c4928 := of_decide_eq_true q4928
            refine zSp0 (pc' := 67) (st' := .int (-2) :: _) vr_16_65 rfl rfl ?_
            refine zLiret vr_16_67 rfl (fun x4930 e4930 => ?_)
            cases e4930
            exact ⟨rfl, congrArg (fun z : Int32 => Sum.inl (some (Value.int z))) (alT_c (hD.clash (bS_tnz (by omega) hlt c4916) (Or.inl c4928)) (by omega)).symm⟩
          · cases e4928
            cases f4928
            have c4928 := ndc q4928
            refine zSiload (m := 2) (k := 7) vr_16_51 rfl rfl rfl (fun x4931 e4931 => ?_)
            cases e4931
            refine zSp0 (pc' := 55) (st' := .int (-4) :: _) vr_16_53 rfl rfl ?_
            refine zSb2 (f := fun x y => decide (x = y)) (off := 13) (t := 68) vr_16_55 rfl rfl rfl (fun x4933 y4933 e4933 f4933 q4933 => ?_) (fun x4933 y4933 e4933 f4933 q4933 => ?_)
            · cases e4933
              cases f4933
              have c4933 := of_decide_eq_true q4933
              refine zSiload (m := 2) (k := 9) vr_16_68 rfl rfl rfl (fun x4934 e4934 => ?_)
              cases e4934
              refine zSistore (m := 2) (k := 7) vr_16_70 rfl rfl (fun x4935 e4935 => ?_)
              cases e4935
              show zL zrx zi _ 16 72 [(7, _), (9, _), (8, _), (0, _), (1, _), (2, _), (3, _), (4, _), (5, _), (6, _)] [] _ _ _
              refine zSiinc vr_16_72 rfl rfl (fun x4936 e4936 => ?_)
              cases e4936
              show zL zrx zi _ 16 75 [(8, _), (7, _), (9, _), (0, _), (1, _), (2, _), (3, _), (4, _), (5, _), (6, _)] [] _ _ _
              refine zSgo (t := 7) vr_16_75 rfl rfl ?_
              rw [ofNat_succ]
              exact zL_pm _ _ _ [(8, _), (7, _), (0, _), (1, _), (2, _), (3, _), (4, _), (5, _), (6, _), (9, _)] _ _ _ _ _ ⟨(List.forall_mem_cons.mpr ⟨List.mem_cons_self, (List.forall_mem_cons.mpr ⟨(List.mem_cons_of_mem _ List.mem_cons_self), (List.forall_mem_cons.mpr ⟨(List.mem_cons_of_mem _ (List.mem_cons_of_mem _ (List.mem_cons_of_mem _ (List.mem_cons_of_mem _ (List.mem_cons_of_mem _ (List.mem_cons_of_mem _ (List.mem_cons_of_mem _ (List.mem_cons_of_mem _ (List.mem_cons_of_mem _ List.mem_cons_self))))))))), (List.forall_mem_cons.mpr ⟨(List.mem_cons_of_mem _ (List.mem_cons_of_mem _ List.mem_cons_self)), (List.forall_mem_cons.mpr ⟨(List.mem_cons_of_mem _ (List.mem_cons_of_mem _ (List.mem_cons_of_mem _ List.mem_cons_self))), (List.forall_mem_cons.mpr ⟨(List.mem_cons_of_mem _ (List.mem_cons_of_mem _ (List.mem_cons_of_mem _ (List.mem_cons_of_mem _ List.mem_cons_self)))), (List.forall_mem_cons.mpr ⟨(List.mem_cons_of_mem _ (List.mem_cons_of_mem _ (List.mem_cons_of_mem _ (List.mem_cons_of_mem _ (List.mem_cons_of_mem _ List.mem_cons_self))))), (List.forall_mem_cons.mpr ⟨(List.mem_cons_of_mem _ (List.mem_cons_of_mem _ (List.mem_cons_of_mem _ (List.mem_cons_of_mem _ (List.mem_cons_of_mem _ (List.mem_cons_of_mem _ List.mem_cons_self)))))), (List.forall_mem_cons.mpr ⟨(List.mem_cons_of_mem _ (List.mem_cons_of_mem _ (List.mem_cons_of_mem _ (List.mem_cons_of_mem _ (List.mem_cons_of_mem _ (List.mem_cons_of_mem _ (List.mem_cons_of_mem _ List.mem_cons_self))))))), (List.forall_mem_cons.mpr ⟨(List.mem_cons_of_mem _ (List.mem_cons_of_mem _ (List.mem_cons_of_mem _ (List.mem_cons_of_mem _ (List.mem_cons_of_mem _ (List.mem_cons_of_mem _ (List.mem_cons_of_mem _ (List.mem_cons_of_mem _ List.mem_cons_self)))))))), (fun _ h => absurd h List.not_mem_nil)⟩)⟩)⟩)⟩)⟩)⟩)⟩)⟩)⟩)⟩), show ([8, 7, 0, 1, 2, 3, 4, 5, 6, 9] : List Nat).Nodup by decide⟩ (C_tAl_loop hS hc h0 h24 hE hO hO2 hcu hop hd hd2 IH n (by omega) (k + 1) _ _ _ (by omega) (hD.first (bS_tnz (by omega) hlt c4916) c4933 rk c4928))
            · cases e4933
              cases f4933
              have c4933 := ndc q4933
              refine zSiload (m := 2) (k := 9) vr_16_58 rfl rfl rfl (fun x4938 e4938 => ?_)
              cases e4938
              refine zSiload (m := 2) (k := 7) vr_16_60 rfl rfl rfl (fun x4939 e4939 => ?_)
              cases e4939
              refine zSb2 (f := fun x y => decide (x = y)) (off := 6) (t := 68) vr_16_62 rfl rfl rfl (fun x4940 y4940 e4940 f4940 q4940 => ?_) (fun x4940 y4940 e4940 f4940 q4940 => ?_)
              · cases e4940
                cases f4940
                have c4940 := of_decide_eq_true q4940
                refine zSiload (m := 2) (k := 9) vr_16_68 rfl rfl rfl (fun x4941 e4941 => ?_)
                cases e4941
                refine zSistore (m := 2) (k := 7) vr_16_70 rfl rfl (fun x4942 e4942 => ?_)
                cases e4942
                show zL zrx zi _ 16 72 [(7, _), (9, _), (8, _), (0, _), (1, _), (2, _), (3, _), (4, _), (5, _), (6, _)] [] _ _ _
                refine zSiinc vr_16_72 rfl rfl (fun x4943 e4943 => ?_)
                cases e4943
                show zL zrx zi _ 16 75 [(8, _), (7, _), (9, _), (0, _), (1, _), (2, _), (3, _), (4, _), (5, _), (6, _)] [] _ _ _
                refine zSgo (t := 7) vr_16_75 rfl rfl ?_
                rw [ofNat_succ]
                exact zL_pm _ _ _ [(8, _), (7, _), (0, _), (1, _), (2, _), (3, _), (4, _), (5, _), (6, _), (9, _)] _ _ _ _ _ ⟨(List.forall_mem_cons.mpr ⟨List.mem_cons_self, (List.forall_mem_cons.mpr ⟨(List.mem_cons_of_mem _ List.mem_cons_self), (List.forall_mem_cons.mpr ⟨(List.mem_cons_of_mem _ (List.mem_cons_of_mem _ (List.mem_cons_of_mem _ (List.mem_cons_of_mem _ (List.mem_cons_of_mem _ (List.mem_cons_of_mem _ (List.mem_cons_of_mem _ (List.mem_cons_of_mem _ (List.mem_cons_of_mem _ List.mem_cons_self))))))))), (List.forall_mem_cons.mpr ⟨(List.mem_cons_of_mem _ (List.mem_cons_of_mem _ List.mem_cons_self)), (List.forall_mem_cons.mpr ⟨(List.mem_cons_of_mem _ (List.mem_cons_of_mem _ (List.mem_cons_of_mem _ List.mem_cons_self))), (List.forall_mem_cons.mpr ⟨(List.mem_cons_of_mem _ (List.mem_cons_of_mem _ (List.mem_cons_of_mem _ (List.mem_cons_of_mem _ List.mem_cons_self)))), (List.forall_mem_cons.mpr ⟨(List.mem_cons_of_mem _ (List.mem_cons_of_mem _ (List.mem_cons_of_mem _ (List.mem_cons_of_mem _ (List.mem_cons_of_mem _ List.mem_cons_self))))), (List.forall_mem_cons.mpr ⟨(List.mem_cons_of_mem _ (List.mem_cons_of_mem _ (List.mem_cons_of_mem _ (List.mem_cons_of_mem _ (List.mem_cons_of_mem _ (List.mem_cons_of_mem _ List.mem_cons_self)))))), (List.forall_mem_cons.mpr ⟨(List.mem_cons_of_mem _ (List.mem_cons_of_mem _ (List.mem_cons_of_mem _ (List.mem_cons_of_mem _ (List.mem_cons_of_mem _ (List.mem_cons_of_mem _ (List.mem_cons_of_mem _ List.mem_cons_self))))))), (List.forall_mem_cons.mpr ⟨(List.mem_cons_of_mem _ (List.mem_cons_of_mem _ (List.mem_cons_of_mem _ (List.mem_cons_of_mem _ (List.mem_cons_of_mem _ (List.mem_cons_of_mem _ (List.mem_cons_of_mem _ (List.mem_cons_of_mem _ List.mem_cons_self)))))))), (fun _ h => absurd h List.not_mem_nil)⟩)⟩)⟩)⟩)⟩)⟩)⟩)⟩)⟩)⟩), show ([8, 7, 0, 1, 2, 3, 4, 5, 6, 9] : List Nat).Nodup by decide⟩ (C_tAl_loop hS hc h0 h24 hE hO hO2 hcu hop hd hd2 IH n (by omega) (k + 1) _ _ _ (by omega) (hD.again (bS_tnz (by omega) hlt c4916) c4940 rk c4928))
              · cases e4940
                cases f4940
                have c4940 := ndc q4940
                refine zSp0 (pc' := 67) (st' := .int (-2) :: _) vr_16_65 rfl rfl ?_
                refine zLiret vr_16_67 rfl (fun x4946 e4946 => ?_)
                cases e4946
                exact ⟨rfl, congrArg (fun z : Int32 => Sum.inl (some (Value.int z))) (alT_c (hD.clash (bS_tnz (by omega) hlt c4916) (Or.inr ⟨c4933, c4940⟩)) (by omega)).symm⟩
        · obtain ⟨-, z⟩ := q4924
          cases z
      · cases e4916
        have c4916 := ndc q4916
        refine zSgo (t := 72) vr_16_25 rfl rfl ?_
        refine zSiinc vr_16_72 rfl rfl (fun x4948 e4948 => ?_)
        cases e4948
        show zL zrx zi _ 16 75 [(8, _), (7, _), (0, _), (1, _), (2, _), (3, _), (4, _), (5, _), (6, _), (9, _)] [] _ _ _
        refine zSgo (t := 7) vr_16_75 rfl rfl ?_
        rw [ofNat_succ]
        exact zL_pm _ _ _ [(8, _), (7, _), (0, _), (1, _), (2, _), (3, _), (4, _), (5, _), (6, _), (9, _)] _ _ _ _ _ ⟨(List.forall_mem_cons.mpr ⟨List.mem_cons_self, (List.forall_mem_cons.mpr ⟨(List.mem_cons_of_mem _ List.mem_cons_self), (List.forall_mem_cons.mpr ⟨(List.mem_cons_of_mem _ (List.mem_cons_of_mem _ List.mem_cons_self)), (List.forall_mem_cons.mpr ⟨(List.mem_cons_of_mem _ (List.mem_cons_of_mem _ (List.mem_cons_of_mem _ List.mem_cons_self))), (List.forall_mem_cons.mpr ⟨(List.mem_cons_of_mem _ (List.mem_cons_of_mem _ (List.mem_cons_of_mem _ (List.mem_cons_of_mem _ List.mem_cons_self)))), (List.forall_mem_cons.mpr ⟨(List.mem_cons_of_mem _ (List.mem_cons_of_mem _ (List.mem_cons_of_mem _ (List.mem_cons_of_mem _ (List.mem_cons_of_mem _ List.mem_cons_self))))), (List.forall_mem_cons.mpr ⟨(List.mem_cons_of_mem _ (List.mem_cons_of_mem _ (List.mem_cons_of_mem _ (List.mem_cons_of_mem _ (List.mem_cons_of_mem _ (List.mem_cons_of_mem _ List.mem_cons_self)))))), (List.forall_mem_cons.mpr ⟨(List.mem_cons_of_mem _ (List.mem_cons_of_mem _ (List.mem_cons_of_mem _ (List.mem_cons_of_mem _ (List.mem_cons_of_mem _ (List.mem_cons_of_mem _ (List.mem_cons_of_mem _ List.mem_cons_self))))))), (List.forall_mem_cons.mpr ⟨(List.mem_cons_of_mem _ (List.mem_cons_of_mem _ (List.mem_cons_of_mem _ (List.mem_cons_of_mem _ (List.mem_cons_of_mem _ (List.mem_cons_of_mem _ (List.mem_cons_of_mem _ (List.mem_cons_of_mem _ List.mem_cons_self)))))))), (List.forall_mem_cons.mpr ⟨(List.mem_cons_of_mem _ (List.mem_cons_of_mem _ (List.mem_cons_of_mem _ (List.mem_cons_of_mem _ (List.mem_cons_of_mem _ (List.mem_cons_of_mem _ (List.mem_cons_of_mem _ (List.mem_cons_of_mem _ (List.mem_cons_of_mem _ List.mem_cons_self))))))))), (fun _ h => absurd h List.not_mem_nil)⟩)⟩)⟩)⟩)⟩)⟩)⟩)⟩)⟩)⟩), show ([8, 7, 0, 1, 2, 3, 4, 5, 6, 9] : List Nat).Nodup by decide⟩ (C_tAl_loop hS hc h0 h24 hE hO hO2 hcu hop hd hd2 IH n (by omega) (k + 1) _ _ _ (by omega) (hD.skip (bS_tz (by omega) hlt (Decidable.not_not.mp c4916))))
theorem C_tAl0 {h : List zC} {cnt : Int32} (hS : Stc h) (hc : gF h 71 2 = some (.int cnt)) (h0 : 0 ≤ cnt.toInt) (h24 : cnt.toInt ≤ 24) {ex : Nat → Nat → Bool} (hE : ∀ a, a < cnt.toNatClampNeg → gF h (73 + 4 * a) 5 = some (.int (bS (fun k => ex k a) cnt.toNatClampNeg))) (hO : ∀ k, k < cnt.toNatClampNeg → ¬ 0 ≤ clO h k → ¬ clO h k = -1 → (-2 - clO h k).toNatClampNeg < cnt.toNatClampNeg ∧ 0 ≤ (-2 - clO h k).toInt) (hO2 : ∀ k, k < cnt.toNatClampNeg → (clO h k).toInt ≤ 100) {A P : Nat → Bool} {cu : Int32} (hcu : rT cu) {N : Nat} (IH : ∀ m, m ≤ N → tOne 17 h cnt.toNatClampNeg ex A P cu m) : tAll 16 h cnt.toNatClampNeg ex A P cu (N + 1) := fun S d op opn dep u hop hd hd2 => by
  refine zSp0 (pc' := 2) (st' := .int (-4) :: _) vr_16_0 rfl rfl ?_
  refine zSistore (m := 2) (k := 7) vr_16_2 rfl rfl (fun x4951 e4951 => ?_)
  cases e4951
  show zL zrx zi _ 16 4 [(7, _), (0, _), (1, _), (2, _), (3, _), (4, _), (5, _), (6, _)] [] _ _ _
  refine zSp0 (pc' := 5) (st' := .int (0) :: _) vr_16_4 rfl rfl ?_
  refine zSistore (m := 2) (k := 8) vr_16_5 rfl rfl (fun x4953 e4953 => ?_)
  cases e4953
  show zL zrx zi _ 16 7 [(8, _), (7, _), (0, _), (1, _), (2, _), (3, _), (4, _), (5, _), (6, _)] [] _ _ _
  exact zL_pm _ _ _ [(8, _), (7, _), (0, _), (1, _), (2, _), (3, _), (4, _), (5, _), (6, _), (9, _)] _ _ _ _ _ ⟨(List.forall_mem_cons.mpr ⟨List.mem_cons_self, (List.forall_mem_cons.mpr ⟨(List.mem_cons_of_mem _ List.mem_cons_self), (List.forall_mem_cons.mpr ⟨(List.mem_cons_of_mem _ (List.mem_cons_of_mem _ List.mem_cons_self)), (List.forall_mem_cons.mpr ⟨(List.mem_cons_of_mem _ (List.mem_cons_of_mem _ (List.mem_cons_of_mem _ List.mem_cons_self))), (List.forall_mem_cons.mpr ⟨(List.mem_cons_of_mem _ (List.mem_cons_of_mem _ (List.mem_cons_of_mem _ (List.mem_cons_of_mem _ List.mem_cons_self)))), (List.forall_mem_cons.mpr ⟨(List.mem_cons_of_mem _ (List.mem_cons_of_mem _ (List.mem_cons_of_mem _ (List.mem_cons_of_mem _ (List.mem_cons_of_mem _ List.mem_cons_self))))), (List.forall_mem_cons.mpr ⟨(List.mem_cons_of_mem _ (List.mem_cons_of_mem _ (List.mem_cons_of_mem _ (List.mem_cons_of_mem _ (List.mem_cons_of_mem _ (List.mem_cons_of_mem _ List.mem_cons_self)))))), (List.forall_mem_cons.mpr ⟨(List.mem_cons_of_mem _ (List.mem_cons_of_mem _ (List.mem_cons_of_mem _ (List.mem_cons_of_mem _ (List.mem_cons_of_mem _ (List.mem_cons_of_mem _ (List.mem_cons_of_mem _ List.mem_cons_self))))))), (List.forall_mem_cons.mpr ⟨(List.mem_cons_of_mem _ (List.mem_cons_of_mem _ (List.mem_cons_of_mem _ (List.mem_cons_of_mem _ (List.mem_cons_of_mem _ (List.mem_cons_of_mem _ (List.mem_cons_of_mem _ (List.mem_cons_of_mem _ List.mem_cons_self)))))))), (fun _ h => absurd h List.not_mem_nil)⟩)⟩)⟩)⟩)⟩)⟩)⟩)⟩)⟩), show ([8, 7, 0, 1, 2, 3, 4, 5, 6, 9] : List Nat).Nodup by decide⟩ (C_tAl_loop hS hc h0 h24 hE hO hO2 hcu hop hd hd2 IH _ (Nat.le_refl _) 0 (-4) .null _ (Nat.zero_le _) (Or.inl ⟨rfl, rfl⟩))
set_option maxRecDepth 20000 in
theorem C_tOn0 {h : List zC} {cnt : Int32} (hS : Stc h) (hc : gF h 71 2 = some (.int cnt)) (h0 : 0 ≤ cnt.toInt) (h24 : cnt.toInt ≤ 24) (hCl : ∀ k, k < cnt.toNatClampNeg → ∃ C : Nat, gF h (73 + 4 * k) 1 = some (.ref C) ∧ 239 ≤ C) {ex : Nat → Nat → Bool} (hE : ∀ a, a < cnt.toNatClampNeg → gF h (73 + 4 * a) 5 = some (.int (bS (fun k => ex k a) cnt.toNatClampNeg))) (hO : ∀ k, k < cnt.toNatClampNeg → ¬ 0 ≤ clO h k → ¬ clO h k = -1 → (-2 - clO h k).toNatClampNeg < cnt.toNatClampNeg ∧ 0 ≤ (-2 - clO h k).toInt) (hO2 : ∀ k, k < cnt.toNatClampNeg → (clO h k).toInt ≤ 100) {A P : Nat → Bool} {cu : Int32} (hcu : rT cu) {N : Nat} (IHo : ∀ m, m ≤ N → tOne 17 h cnt.toNatClampNeg ex A P cu m) (IHa : ∀ m, m ≤ N → tAll 16 h cnt.toNatClampNeg ex A P cu m) : tOne 17 h cnt.toNatClampNeg ex A P cu (N + 1) := fun a d op opn dep u ha hop hd hd2 => by
  have ck : cnt.toNatClampNeg = cnt.toInt.toNat := rfl
  have ka := (toNat_ofNat (m := a) (by omega))
  have z0 : (0 : Int32).toInt = 0 := rfl
  have z24 : (24 : Int32).toInt = 24 := rfl
  refine zLp vr_17_0 rfl rfl ?_
  refine zSb1 (f := fun x => decide (x < 0)) (off := 28) (t := 29) vr_17_1 rfl rfl rfl (fun x4954 e4954 q4954 => ?_) (fun x4954 e4954 q4954 => ?_)
  · cases e4954
    have c4954 := of_decide_eq_true q4954
    refine zSp0 (pc' := 31) (st' := .int (-3) :: _) vr_17_29 rfl rfl ?_
    refine zLiret vr_17_31 rfl (fun x4956 e4956 => ?_)
    cases e4956
    have y := c4954
    rw [i32_lt, ka.2, z0] at y
    omega
  · cases e4954
    have c4954 := ndc q4954
    refine zSiload (m := 1) (k := 1) vr_17_4 rfl rfl rfl (fun x4957 e4957 => ?_)
    cases e4957
    refine zSaload (m := 1) (k := 0) vr_17_5 rfl rfl rfl ?_
    refine zLget vr_17_6 rfl (fun p4959 w4959 e4959 t4959 g4959 => ?_)
    cases e4959
    first | (rw [hc] at g4959; cases g4959) | (rw [(st_71_0 hS)] at g4959; cases g4959) | (rw [hI] at g4959; cases g4959) | (rw [(hE a ha)] at g4959; cases g4959) | (rw [hC] at g4959; cases g4959) | skip
    refine zSb2 (f := fun x y => decide (y ≤ x)) (off := 20) (t := 29) vr_17_9 rfl rfl rfl (fun x4960 y4960 e4960 f4960 q4960 => ?_) (fun x4960 y4960 e4960 f4960 q4960 => ?_)
    · cases e4960
      cases f4960
      have c4960 := of_decide_eq_true q4960
      refine zSp0 (pc' := 31) (st' := .int (-3) :: _) vr_17_29 rfl rfl ?_
      refine zLiret vr_17_31 rfl (fun x4962 e4962 => ?_)
      cases e4962
      have y := c4960
      rw [i32_le, ka.2] at y
      omega
    · cases e4960
      cases f4960
      have c4960 := ndc q4960
      refine zSiload (m := 2) (k := 6) vr_17_12 rfl rfl rfl (fun x4963 e4963 => ?_)
      cases e4963
      refine zSp0 (pc' := 16) (st' := .int (24) :: _) vr_17_14 rfl rfl ?_
      refine zSb2 (f := fun x y => decide (y < x)) (off := 13) (t := 29) vr_17_16 rfl rfl rfl (fun x4965 y4965 e4965 f4965 q4965 => ?_) (fun x4965 y4965 e4965 f4965 q4965 => ?_)
      · cases e4965
        cases f4965
        have c4965 := of_decide_eq_true q4965
        refine zSp0 (pc' := 31) (st' := .int (-3) :: _) vr_17_29 rfl rfl ?_
        refine zLiret vr_17_31 rfl (fun x4967 e4967 => ?_)
        cases e4967
        have y := c4965
        rw [i32_lt, z24] at y
        have e : d = 0 := by omega
        subst e
        exact ⟨rfl, rfl⟩
      · cases e4965
        cases f4965
        have c4965 := ndc q4965
        have l24 : dep.toInt ≤ 24 := by
          have y := c4965
          rw [i32_lt, z24] at y
          omega
        obtain ⟨d, rfl⟩ : ∃ e, d = e + 1 := ⟨d - 1, by omega⟩
        refine zSiload (m := 2) (k := 5) vr_17_19 rfl rfl rfl (fun x4968 e4968 => ?_)
        cases e4968
        refine zSiload (m := 1) (k := 1) vr_17_21 rfl rfl rfl (fun x4969 e4969 => ?_)
        cases e4969
        refine zS2 (f := fun x y => .int (x >>> (y &&& 31))) vr_17_22 rfl rfl (fun x4970 y4970 e4970 f4970 => ?_)
        cases e4970
        cases f4970
        refine zSp0 (pc' := 24) (st' := .int (1) :: _) vr_17_23 rfl rfl ?_
        refine zS2 (f := fun x y => .int (x &&& y)) vr_17_24 rfl rfl (fun x4972 y4972 e4972 f4972 => ?_)
        cases e4972
        cases f4972
        refine zSp0 (pc' := 26) (st' := .int (1) :: _) vr_17_25 rfl rfl ?_
        refine zSb2 (f := fun x y => decide (¬ x = y)) (off := 6) (t := 32) vr_17_26 rfl rfl rfl (fun x4974 y4974 e4974 f4974 q4974 => ?_) (fun x4974 y4974 e4974 f4974 q4974 => ?_)
        · cases e4974
          cases f4974
          have c4974 := of_decide_eq_true q4974
          have oa : op a = false := by
            rw [← hop a ha]
            exact tb_n (by omega) c4974
          have hI : gF h 72 (Int32.ofNat a).toNatClampNeg = some (.ref (73 + 4 * a)) := by
            rw [ka.1]
            exact st_art hS (by omega)
          obtain ⟨C, hC, lC⟩ := hCl a ha
          have rC : rf h (73 + 4 * a) 1 = C := rf_of hC
          have hop2 : ∀ j, j < cnt.toNatClampNeg → tb (opn ||| b1 a) j = (op j || decide (j = a)) := fun j hj => by
            rw [tb_or, hop j hj, tb_one a (by omega) j (by omega)]
          have dep1 : (dep + 1).toInt = 25 - (d : Int) := by
            rw [Int32.toInt_add, show (1 : Int32).toInt = 1 from rfl, Int.bmod_eq_of_le (by omega) (by omega)]
            omega
          have oaf : ¬ op a = true := by
            rw [oa]
            decide
          refine zSaload (m := 1) (k := 0) vr_17_32 rfl rfl rfl ?_
          refine zLget vr_17_33 rfl (fun p4976 w4976 e4976 t4976 g4976 => ?_)
          cases e4976
          first | (rw [hc] at g4976; cases g4976) | (rw [(st_71_0 hS)] at g4976; cases g4976) | (rw [hI] at g4976; cases g4976) | (rw [(hE a ha)] at g4976; cases g4976) | (rw [hC] at g4976; cases g4976) | skip
          refine zSiload (m := 1) (k := 1) vr_17_36 rfl rfl rfl (fun x4977 e4977 => ?_)
          cases e4977
          refine zLaald vr_17_37 rfl (fun p4978 x4978 w4978 e4978 f4978 c4978 t4978 g4978 => ?_)
          cases e4978
          cases f4978
          first | (rw [hc] at g4978; cases g4978) | (rw [(st_71_0 hS)] at g4978; cases g4978) | (rw [hI] at g4978; cases g4978) | (rw [(hE a ha)] at g4978; cases g4978) | (rw [hC] at g4978; cases g4978) | skip
          refine zSastore (m := 2) (k := 7) vr_17_38 rfl rfl ?_
          show zL zrx zi _ 17 40 [(7, _), (0, _), (1, _), (2, _), (3, _), (4, _), (5, _), (6, _)] [] _ _ _
          refine zSiload (m := 2) (k := 5) vr_17_40 rfl rfl rfl (fun x4980 e4980 => ?_)
          cases e4980
          refine zSp0 (pc' := 43) (st' := .int (1) :: _) vr_17_42 rfl rfl ?_
          refine zSiload (m := 1) (k := 1) vr_17_43 rfl rfl rfl (fun x4982 e4982 => ?_)
          cases e4982
          refine zS2 (f := fun x y => .int (x <<< (y &&& 31))) vr_17_44 rfl rfl (fun x4983 y4983 e4983 f4983 => ?_)
          cases e4983
          cases f4983
          refine zS2 (f := fun x y => .int (x ||| y)) vr_17_45 rfl rfl (fun x4984 y4984 e4984 f4984 => ?_)
          cases e4984
          cases f4984
          refine zSistore (m := 2) (k := 8) vr_17_46 rfl rfl (fun x4985 e4985 => ?_)
          cases e4985
          show zL zrx zi _ 17 48 [(8, _), (7, _), (0, _), (1, _), (2, _), (3, _), (4, _), (5, _), (6, _)] [] _ _ _
          refine zSaload (m := 2) (k := 7) vr_17_48 rfl rfl rfl ?_
          refine zLget vr_17_50 rfl (fun p4987 w4987 e4987 t4987 g4987 => ?_)
          cases e4987
          first | (rw [hc] at g4987; cases g4987) | (rw [(st_71_0 hS)] at g4987; cases g4987) | (rw [hI] at g4987; cases g4987) | (rw [(hE a ha)] at g4987; cases g4987) | (rw [hC] at g4987; cases g4987) | skip
          refine zSiload (m := 1) (k := 3) vr_17_53 rfl rfl rfl (fun x4988 e4988 => ?_)
          cases e4988
          refine zS2 (f := fun x y => .int (x &&& y)) vr_17_54 rfl rfl (fun x4989 y4989 e4989 f4989 => ?_)
          cases e4989
          cases f4989
          refine zSistore (m := 2) (k := 9) vr_17_55 rfl rfl (fun x4990 e4990 => ?_)
          cases e4990
          show zL zrx zi _ 17 57 [(9, _), (8, _), (7, _), (0, _), (1, _), (2, _), (3, _), (4, _), (5, _), (6, _)] [] _ _ _
          rw [bS_and (by omega)]
          refine zSiload (m := 2) (k := 9) vr_17_57 rfl rfl rfl (fun x4991 e4991 => ?_)
          cases e4991
          refine zSb1 (f := fun x => decide (x = 0)) (off := 20) (t := 79) vr_17_59 rfl rfl rfl (fun x4992 e4992 q4992 => ?_) (fun x4992 e4992 q4992 => ?_)
          · cases e4992
            have c4992 := of_decide_eq_true q4992
            have f9 : foldT (fun k => ex k a && A k) (fun k => tlT cnt.toNatClampNeg ex A P (clO h) cu d k (fun j => op j || decide (j = a))) cnt.toNatClampNeg = -9 := foldT_0 (n := cnt.toNatClampNeg) (fun k hk => (bS_0 (by omega)).mp c4992 k hk) _ (Nat.le_refl _)
            refine zSaload (m := 2) (k := 7) vr_17_79 rfl rfl rfl ?_
            refine zLget vr_17_81 rfl (fun p4994 w4994 e4994 t4994 g4994 => ?_)
            cases e4994
            first | (rw [hc] at g4994; cases g4994) | (rw [(st_71_0 hS)] at g4994; cases g4994) | (rw [hI] at g4994; cases g4994) | (rw [(hE a ha)] at g4994; cases g4994) | (rw [hC] at g4994; cases g4994) | skip
            refine zLget vr_17_84 rfl (fun p4995 w4995 e4995 t4995 g4995 => ?_)
            cases e4995
            first | (rw [hc] at g4995; cases g4995) | (rw [(st_71_0 hS)] at g4995; cases g4995) | (rw [hI] at g4995; cases g4995) | (rw [(hE a ha)] at g4995; cases g4995) | (rw [hC] at g4995; cases g4995) | skip
            refine zSistore (m := 2) (k := 10) vr_17_87 rfl rfl (fun x4996 e4996 => ?_)
            cases e4996
            show zL zrx zi _ 17 89 [(10, _), (9, _), (8, _), (7, _), (0, _), (1, _), (2, _), (3, _), (4, _), (5, _), (6, _)] [] _ _ _
            have eo : clO h a = _ := (congrArg (fun z => iv h z 6) rC).trans (iv_of g4995)
            rw [← eo]
            refine zSiload (m := 2) (k := 10) vr_17_89 rfl rfl rfl (fun x4997 e4997 => ?_)
            cases e4997
            refine zSb1 (f := fun x => decide (x < 0)) (off := 6) (t := 97) vr_17_91 rfl rfl rfl (fun x4998 e4998 q4998 => ?_) (fun x4998 e4998 q4998 => ?_)
            · cases e4998
              have c4998 := of_decide_eq_true q4998
              refine zSiload (m := 2) (k := 10) vr_17_97 rfl rfl rfl (fun x4999 e4999 => ?_)
              cases e4999
              refine zSp0 (pc' := 100) (st' := .int (-1) :: _) vr_17_99 rfl rfl ?_
              refine zSb2 (f := fun x y => decide (¬ x = y)) (off := 6) (t := 106) vr_17_100 rfl rfl rfl (fun x5001 y5001 e5001 f5001 q5001 => ?_) (fun x5001 y5001 e5001 f5001 q5001 => ?_)
              · cases e5001
                cases f5001
                have c5001 := of_decide_eq_true q5001
                refine zSp0 (pc' := 108) (st' := .int (-2) :: _) vr_17_106 rfl rfl ?_
                refine zSiload (m := 2) (k := 10) vr_17_108 rfl rfl rfl (fun x5003 e5003 => ?_)
                cases e5003
                refine zS2 (f := fun x y => .int (x - y)) vr_17_110 rfl rfl (fun x5004 y5004 e5004 f5004 => ?_)
                cases e5004
                cases f5004
                obtain ⟨ng, hng⟩ : ∃ y : Int32, y = (-2 : Int32) - clO h a := ⟨_, rfl⟩
                first | rw [← hng] | (dsimp only; rw [← hng])
                refine zSistore (m := 2) (k := 11) vr_17_111 rfl rfl (fun x5005 e5005 => ?_)
                cases e5005
                show zL zrx zi _ 17 113 [(11, _), (10, _), (9, _), (8, _), (7, _), (0, _), (1, _), (2, _), (3, _), (4, _), (5, _), (6, _)] [] _ _ _
                obtain ⟨b2, b3⟩ := hO a ha (Int32.not_le.mpr c4998) c5001
                rw [← hng] at b2 b3
                have eb : ng = Int32.ofNat ng.toNatClampNeg := ofn_nat b3
                refine zSiload (m := 1) (k := 2) vr_17_113 rfl rfl rfl (fun x5006 e5006 => ?_)
                cases e5006
                refine zSiload (m := 2) (k := 11) vr_17_114 rfl rfl rfl (fun x5007 e5007 => ?_)
                cases e5007
                refine zS2 (f := fun x y => .int (x >>> (y &&& 31))) vr_17_116 rfl rfl (fun x5008 y5008 e5008 f5008 => ?_)
                cases e5008
                cases f5008
                refine zSp0 (pc' := 118) (st' := .int (1) :: _) vr_17_117 rfl rfl ?_
                refine zS2 (f := fun x y => .int (x &&& y)) vr_17_118 rfl rfl (fun x5010 y5010 e5010 f5010 => ?_)
                cases e5010
                cases f5010
                refine zSb1 (f := fun x => decide (¬ x = 0)) (off := 5) (t := 124) vr_17_119 rfl rfl rfl (fun x5011 e5011 q5011 => ?_) (fun x5011 e5011 q5011 => ?_)
                · cases e5011
                  have c5011 := of_decide_eq_true q5011
                  rw [eb]
                  refine zSaload (m := 1) (k := 0) vr_17_124 rfl rfl rfl ?_
                  refine zSiload (m := 2) (k := 11) vr_17_125 rfl rfl rfl (fun x5013 e5013 => ?_)
                  cases e5013
                  refine zSiload (m := 1) (k := 2) vr_17_127 rfl rfl rfl (fun x5014 e5014 => ?_)
                  cases e5014
                  refine zSiload (m := 1) (k := 3) vr_17_128 rfl rfl rfl (fun x5015 e5015 => ?_)
                  cases e5015
                  refine zSiload (m := 2) (k := 4) vr_17_129 rfl rfl rfl (fun x5016 e5016 => ?_)
                  cases e5016
                  refine zSiload (m := 2) (k := 8) vr_17_131 rfl rfl rfl (fun x5017 e5017 => ?_)
                  cases e5017
                  refine zSiload (m := 2) (k := 6) vr_17_133 rfl rfl rfl (fun x5018 e5018 => ?_)
                  cases e5018
                  refine zSp0 (pc' := 136) (st' := .int (1) :: _) vr_17_135 rfl rfl ?_
                  refine zS2 (f := fun x y => .int (x + y)) vr_17_136 rfl rfl (fun x5020 y5020 e5020 f5020 => ?_)
                  cases e5020
                  cases f5020
                  refine zScall vr_17_137 rfl rfl rfl (fun m5021 _ => IHo _ (by omega) _ d (fun j => op j || decide (j = a)) _ _ _ b2 hop2 dep1 (by omega)) (fun v5021 h5021 u5021 q5021 => ?_) (fun E5021 h5021 u5021 q5021 => ?_)
                  · obtain ⟨eh5021, z5021⟩ := q5021
                    replace eh5021 := eh5021.symm
                    subst eh5021
                    cases z5021
                    show zL zrx zi _ 17 140 [(11, _), (10, _), (9, _), (8, _), (7, _), (0, _), (1, _), (2, _), (3, _), (4, _), (5, _), (6, _)] [_] _ _ _
                    refine zLiret vr_17_140 rfl (fun x5022 e5022 => ?_)
                    cases e5022
                    refine ⟨rfl, congrArg (fun z : Int32 => Sum.inl (some (Value.int z))) ?_⟩
                    conv => rhs; unfold tlT
                    rw [if_neg oaf, if_pos f9]
                    have y := c5011
                    rw [eb] at y
                    have pf := bS_tnz (by omega) b2 y
                    rw [hng] at pf ⊢
                    rw [if_neg (Int32.not_le.mpr c4998), if_neg c5001, if_pos pf]
                  · obtain ⟨-, z⟩ := q5021
                    cases z
                · cases e5011
                  have c5011 := ndc q5011
                  refine zSp0 (pc' := 123) (st' := .int (-1) :: _) vr_17_122 rfl rfl ?_
                  refine zLiret vr_17_123 rfl (fun x5024 e5024 => ?_)
                  cases e5024
                  refine ⟨rfl, congrArg (fun z : Int32 => Sum.inl (some (Value.int z))) ?_⟩
                  conv => rhs; unfold tlT
                  rw [if_neg oaf, if_pos f9]
                  have y := Decidable.not_not.mp c5011
                  rw [eb] at y
                  have pf := bS_tz (by omega) b2 y
                  rw [hng] at pf
                  rw [if_neg (Int32.not_le.mpr c4998), if_neg c5001, if_neg (by rw [pf]; decide)]
              · cases e5001
                cases f5001
                have c5001 := ndc q5001
                refine zSiload (m := 2) (k := 4) vr_17_103 rfl rfl rfl (fun x5025 e5025 => ?_)
                cases e5025
                refine zLiret vr_17_105 rfl (fun x5026 e5026 => ?_)
                cases e5026
                refine ⟨rfl, congrArg (fun z : Int32 => Sum.inl (some (Value.int z))) ?_⟩
                conv => rhs; unfold tlT
                rw [if_neg oaf, if_pos f9]
                rw [if_neg (Int32.not_le.mpr c4998), if_pos (Decidable.not_not.mp c5001)]
            · cases e4998
              have c4998 := ndc q4998
              refine zSiload (m := 2) (k := 10) vr_17_94 rfl rfl rfl (fun x5027 e5027 => ?_)
              cases e5027
              refine zLiret vr_17_96 rfl (fun x5028 e5028 => ?_)
              cases e5028
              refine ⟨rfl, congrArg (fun z : Int32 => Sum.inl (some (Value.int z))) ?_⟩
              conv => rhs; unfold tlT
              rw [if_neg oaf, if_pos f9]
              rw [if_pos (Int32.not_lt.mp c4998)]
          · cases e4992
            have c4992 := ndc q4992
            have e59 := c4992
            refine zSaload (m := 1) (k := 0) vr_17_62 rfl rfl rfl ?_
            refine zSiload (m := 2) (k := 9) vr_17_63 rfl rfl rfl (fun x5030 e5030 => ?_)
            cases e5030
            refine zSiload (m := 1) (k := 2) vr_17_65 rfl rfl rfl (fun x5031 e5031 => ?_)
            cases e5031
            refine zSiload (m := 1) (k := 3) vr_17_66 rfl rfl rfl (fun x5032 e5032 => ?_)
            cases e5032
            refine zSiload (m := 2) (k := 4) vr_17_67 rfl rfl rfl (fun x5033 e5033 => ?_)
            cases e5033
            refine zSiload (m := 2) (k := 8) vr_17_69 rfl rfl rfl (fun x5034 e5034 => ?_)
            cases e5034
            refine zSiload (m := 2) (k := 6) vr_17_71 rfl rfl rfl (fun x5035 e5035 => ?_)
            cases e5035
            refine zSp0 (pc' := 74) (st' := .int (1) :: _) vr_17_73 rfl rfl ?_
            refine zS2 (f := fun x y => .int (x + y)) vr_17_74 rfl rfl (fun x5037 y5037 e5037 f5037 => ?_)
            cases e5037
            cases f5037
            refine zScall vr_17_75 rfl rfl rfl (fun m5038 _ => IHa _ (by omega) _ d (fun j => op j || decide (j = a)) _ _ _ hop2 dep1 (by omega)) (fun v5038 h5038 u5038 q5038 => ?_) (fun E5038 h5038 u5038 q5038 => ?_)
            · obtain ⟨eh5038, z5038⟩ := q5038
              replace eh5038 := eh5038.symm
              subst eh5038
              cases z5038
              show zL zrx zi _ 17 78 [(9, _), (8, _), (7, _), (0, _), (1, _), (2, _), (3, _), (4, _), (5, _), (6, _)] [_] _ _ _
              refine zLiret vr_17_78 rfl (fun x5039 e5039 => ?_)
              cases e5039
              refine ⟨rfl, congrArg (fun z : Int32 => Sum.inl (some (Value.int z))) ?_⟩
              conv => rhs; unfold tlT
              have nf : ¬ foldT (fun k => ex k a && A k) (fun k => tlT cnt.toNatClampNeg ex A P (clO h) cu d k (fun j => op j || decide (j = a))) cnt.toNatClampNeg = -9 := fun z => e59 ((bS_0 (by omega)).mpr (fun k hk => by
                rcases foldT_r (S := fun k => ex k a && A k) (f := fun k => tlT cnt.toNatClampNeg ex A P (clO h) cu d k (fun j => op j || decide (j = a))) (n := cnt.toNatClampNeg) (fun k hk _ => tlT_r hO2 (fun j hj a b => (hO j hj a b).1) hcu d k _ hk) _ (Nat.le_refl _) with ⟨-, q⟩ | ⟨q, -⟩
                · exact q k hk
                · exact absurd z (rT_9 q).1))
              rw [if_neg oaf, if_neg nf]
              exact alT_y nf
            · obtain ⟨-, z⟩ := q5038
              cases z
        · cases e4974
          cases f4974
          have c4974 := ndc q4974
          refine zSp0 (pc' := 31) (st' := .int (-3) :: _) vr_17_29 rfl rfl ?_
          refine zLiret vr_17_31 rfl (fun x5041 e5041 => ?_)
          cases e5041
          have y := tb_y (by omega) (Decidable.not_not.mp c4974)
          rw [hop a ha] at y
          refine ⟨rfl, congrArg (fun z : Int32 => Sum.inl (some (Value.int z))) ?_⟩
          conv => rhs; unfold tlT
          rw [if_pos y]
theorem C_tOA {h : List zC} {cnt : Int32} (hS : Stc h) (hc : gF h 71 2 = some (.int cnt)) (h0 : 0 ≤ cnt.toInt) (h24 : cnt.toInt ≤ 24) (hCl : ∀ k, k < cnt.toNatClampNeg → ∃ C : Nat, gF h (73 + 4 * k) 1 = some (.ref C) ∧ 239 ≤ C) {ex : Nat → Nat → Bool} (hE : ∀ a, a < cnt.toNatClampNeg → gF h (73 + 4 * a) 5 = some (.int (bS (fun k => ex k a) cnt.toNatClampNeg))) (hO : ∀ k, k < cnt.toNatClampNeg → ¬ 0 ≤ clO h k → ¬ clO h k = -1 → (-2 - clO h k).toNatClampNeg < cnt.toNatClampNeg ∧ 0 ≤ (-2 - clO h k).toInt) (hO2 : ∀ k, k < cnt.toNatClampNeg → (clO h k).toInt ≤ 100) {A P : Nat → Bool} {cu : Int32} (hcu : rT cu) : ∀ (N m : Nat), m ≤ N → tOne 17 h cnt.toNatClampNeg ex A P cu m ∧ tAll 16 h cnt.toNatClampNeg ex A P cu m
  | 0, m, hm => by
    have e : m = 0 := by omega
    subst e
    exact ⟨fun _ _ _ _ _ _ _ _ _ _ => trivial, fun _ _ _ _ _ _ _ _ _ => trivial⟩
  | N + 1, m, hm => by
    have ih := C_tOA (A := A) (P := P) hS hc h0 h24 hCl hE hO hO2 hcu N
    by_cases z : m ≤ N
    · exact ih m z
    · have e : m = N + 1 := by omega
      subst e
      exact ⟨C_tOn0 hS hc h0 h24 hCl hE hO hO2 hcu (fun q hq => (ih q hq).1) (fun q hq => (ih q hq).2), C_tAl0 hS hc h0 h24 hE hO hO2 hcu (fun q hq => (ih q hq).1)⟩
theorem C_mil (n : Nat) (x y : Int32) (h : List zC) (u : Nat) : zL zrx zi n 21 0 [(0, .int x), (1, .int y)] [] h u (fun o h2 _ => h2 = h ∧ o = .inl (some (.int (milT x y)))) := by
  refine zSiload (m := 1) (k := 0) vr_21_0 rfl rfl rfl (fun x5042 e5042 => ?_)
  cases e5042
  refine zSb1 (f := fun x => decide (x < 0)) (off := 13) (t := 14) vr_21_1 rfl rfl rfl (fun x5043 e5043 q5043 => ?_) (fun x5043 e5043 q5043 => ?_)
  · cases e5043
    have c5043 := of_decide_eq_true q5043
    refine zSiload (m := 1) (k := 0) vr_21_14 rfl rfl rfl (fun x5044 e5044 => ?_)
    cases e5044
    refine zSb1 (f := fun x => decide (0 ≤ x)) (off := 7) (t := 22) vr_21_15 rfl rfl rfl (fun x5045 e5045 q5045 => ?_) (fun x5045 e5045 q5045 => ?_)
    · cases e5045
      have c5045 := of_decide_eq_true q5045
      refine zSiload (m := 1) (k := 0) vr_21_22 rfl rfl rfl (fun x5046 e5046 => ?_)
      cases e5046
      refine zSiload (m := 1) (k := 1) vr_21_23 rfl rfl rfl (fun x5047 e5047 => ?_)
      cases e5047
      refine zScall vr_21_24 rfl rfl rfl (fun m5048 _ => C_mxI _ _ _ _ _) (fun v5048 h5048 u5048 q5048 => ?_) (fun E5048 h5048 u5048 q5048 => ?_)
      · obtain ⟨eh5048, z5048⟩ := q5048
        subst eh5048
        cases z5048
        show zL zrx zi _ 21 27 [(0, _), (1, _)] [_] _ _ _
        refine zLiret vr_21_27 rfl (fun x5049 e5049 => ?_)
        cases e5049
        refine ⟨rfl, congrArg (fun z : Int32 => Sum.inl (some (Value.int z))) ?_⟩
        unfold milT
        rw [if_neg (fun z => absurd c5043 (Int32.not_lt.mpr z.1)), if_pos (Or.inl c5045)]
      · obtain ⟨-, z⟩ := q5048
        cases z
    · cases e5045
      have c5045 := ndc q5045
      refine zSiload (m := 1) (k := 1) vr_21_18 rfl rfl rfl (fun x5050 e5050 => ?_)
      cases e5050
      refine zSb1 (f := fun x => decide (x < 0)) (off := 9) (t := 28) vr_21_19 rfl rfl rfl (fun x5051 e5051 q5051 => ?_) (fun x5051 e5051 q5051 => ?_)
      · cases e5051
        have c5051 := of_decide_eq_true q5051
        refine zSiload (m := 1) (k := 0) vr_21_28 rfl rfl rfl (fun x5052 e5052 => ?_)
        cases e5052
        refine zSp0 (pc' := 31) (st' := .int (-2) :: _) vr_21_29 rfl rfl ?_
        refine zSb2 (f := fun x y => decide (x = y)) (off := 9) (t := 40) vr_21_31 rfl rfl rfl (fun x5054 y5054 e5054 f5054 q5054 => ?_) (fun x5054 y5054 e5054 f5054 q5054 => ?_)
        · cases e5054
          cases f5054
          have c5054 := of_decide_eq_true q5054
          refine zSp0 (pc' := 42) (st' := .int (-2) :: _) vr_21_40 rfl rfl ?_
          refine zSgo (t := 46) vr_21_42 rfl rfl ?_
          refine zLiret vr_21_46 rfl (fun x5057 e5057 => ?_)
          cases e5057
          refine ⟨rfl, congrArg (fun z : Int32 => Sum.inl (some (Value.int z))) ?_⟩
          unfold milT
          rw [if_neg (fun z => absurd c5043 (Int32.not_lt.mpr z.1)), if_neg (fun z => z.elim c5045 (fun y => absurd c5051 (Int32.not_lt.mpr y))), if_pos (Or.inl c5054)]
        · cases e5054
          cases f5054
          have c5054 := ndc q5054
          refine zSiload (m := 1) (k := 1) vr_21_34 rfl rfl rfl (fun x5058 e5058 => ?_)
          cases e5058
          refine zSp0 (pc' := 37) (st' := .int (-2) :: _) vr_21_35 rfl rfl ?_
          refine zSb2 (f := fun x y => decide (¬ x = y)) (off := 8) (t := 45) vr_21_37 rfl rfl rfl (fun x5060 y5060 e5060 f5060 q5060 => ?_) (fun x5060 y5060 e5060 f5060 q5060 => ?_)
          · cases e5060
            cases f5060
            have c5060 := of_decide_eq_true q5060
            refine zSp0 (pc' := 46) (st' := .int (-1) :: _) vr_21_45 rfl rfl ?_
            refine zLiret vr_21_46 rfl (fun x5062 e5062 => ?_)
            cases e5062
            refine ⟨rfl, congrArg (fun z : Int32 => Sum.inl (some (Value.int z))) ?_⟩
            unfold milT
            rw [if_neg (fun z => absurd c5043 (Int32.not_lt.mpr z.1)), if_neg (fun z => z.elim c5045 (fun y => absurd c5051 (Int32.not_lt.mpr y))), if_neg (fun z => z.elim c5054 c5060)]
          · cases e5060
            cases f5060
            have c5060 := ndc q5060
            refine zSp0 (pc' := 42) (st' := .int (-2) :: _) vr_21_40 rfl rfl ?_
            refine zSgo (t := 46) vr_21_42 rfl rfl ?_
            refine zLiret vr_21_46 rfl (fun x5065 e5065 => ?_)
            cases e5065
            refine ⟨rfl, congrArg (fun z : Int32 => Sum.inl (some (Value.int z))) ?_⟩
            unfold milT
            rw [if_neg (fun z => absurd c5043 (Int32.not_lt.mpr z.1)), if_neg (fun z => z.elim c5045 (fun y => absurd c5051 (Int32.not_lt.mpr y))), if_pos (Or.inr (Decidable.not_not.mp c5060))]
      · cases e5051
        have c5051 := ndc q5051
        refine zSiload (m := 1) (k := 0) vr_21_22 rfl rfl rfl (fun x5066 e5066 => ?_)
        cases e5066
        refine zSiload (m := 1) (k := 1) vr_21_23 rfl rfl rfl (fun x5067 e5067 => ?_)
        cases e5067
        refine zScall vr_21_24 rfl rfl rfl (fun m5068 _ => C_mxI _ _ _ _ _) (fun v5068 h5068 u5068 q5068 => ?_) (fun E5068 h5068 u5068 q5068 => ?_)
        · obtain ⟨eh5068, z5068⟩ := q5068
          subst eh5068
          cases z5068
          show zL zrx zi _ 21 27 [(0, _), (1, _)] [_] _ _ _
          refine zLiret vr_21_27 rfl (fun x5069 e5069 => ?_)
          cases e5069
          refine ⟨rfl, congrArg (fun z : Int32 => Sum.inl (some (Value.int z))) ?_⟩
          unfold milT
          rw [if_neg (fun z => absurd c5043 (Int32.not_lt.mpr z.1)), if_pos (Or.inr (Int32.not_lt.mp c5051))]
        · obtain ⟨-, z⟩ := q5068
          cases z
  · cases e5043
    have c5043 := ndc q5043
    refine zSiload (m := 1) (k := 1) vr_21_4 rfl rfl rfl (fun x5070 e5070 => ?_)
    cases e5070
    refine zSb1 (f := fun x => decide (x < 0)) (off := 9) (t := 14) vr_21_5 rfl rfl rfl (fun x5071 e5071 q5071 => ?_) (fun x5071 e5071 q5071 => ?_)
    · cases e5071
      have c5071 := of_decide_eq_true q5071
      refine zSiload (m := 1) (k := 0) vr_21_14 rfl rfl rfl (fun x5072 e5072 => ?_)
      cases e5072
      refine zSb1 (f := fun x => decide (0 ≤ x)) (off := 7) (t := 22) vr_21_15 rfl rfl rfl (fun x5073 e5073 q5073 => ?_) (fun x5073 e5073 q5073 => ?_)
      · cases e5073
        have c5073 := of_decide_eq_true q5073
        refine zSiload (m := 1) (k := 0) vr_21_22 rfl rfl rfl (fun x5074 e5074 => ?_)
        cases e5074
        refine zSiload (m := 1) (k := 1) vr_21_23 rfl rfl rfl (fun x5075 e5075 => ?_)
        cases e5075
        refine zScall vr_21_24 rfl rfl rfl (fun m5076 _ => C_mxI _ _ _ _ _) (fun v5076 h5076 u5076 q5076 => ?_) (fun E5076 h5076 u5076 q5076 => ?_)
        · obtain ⟨eh5076, z5076⟩ := q5076
          subst eh5076
          cases z5076
          show zL zrx zi _ 21 27 [(0, _), (1, _)] [_] _ _ _
          refine zLiret vr_21_27 rfl (fun x5077 e5077 => ?_)
          cases e5077
          refine ⟨rfl, congrArg (fun z : Int32 => Sum.inl (some (Value.int z))) ?_⟩
          unfold milT
          rw [if_neg (fun z => absurd c5071 (Int32.not_lt.mpr z.2)), if_pos (Or.inl c5073)]
        · obtain ⟨-, z⟩ := q5076
          cases z
      · cases e5073
        have c5073 := ndc q5073
        refine zSiload (m := 1) (k := 1) vr_21_18 rfl rfl rfl (fun x5078 e5078 => ?_)
        cases e5078
        refine zSb1 (f := fun x => decide (x < 0)) (off := 9) (t := 28) vr_21_19 rfl rfl rfl (fun x5079 e5079 q5079 => ?_) (fun x5079 e5079 q5079 => ?_)
        · cases e5079
          have c5079 := of_decide_eq_true q5079
          refine zSiload (m := 1) (k := 0) vr_21_28 rfl rfl rfl (fun x5080 e5080 => ?_)
          cases e5080
          refine zSp0 (pc' := 31) (st' := .int (-2) :: _) vr_21_29 rfl rfl ?_
          refine zSb2 (f := fun x y => decide (x = y)) (off := 9) (t := 40) vr_21_31 rfl rfl rfl (fun x5082 y5082 e5082 f5082 q5082 => ?_) (fun x5082 y5082 e5082 f5082 q5082 => ?_)
          · cases e5082
            cases f5082
            have c5082 := of_decide_eq_true q5082
            refine zSp0 (pc' := 42) (st' := .int (-2) :: _) vr_21_40 rfl rfl ?_
            refine zSgo (t := 46) vr_21_42 rfl rfl ?_
            refine zLiret vr_21_46 rfl (fun x5085 e5085 => ?_)
            cases e5085
            refine ⟨rfl, congrArg (fun z : Int32 => Sum.inl (some (Value.int z))) ?_⟩
            unfold milT
            rw [if_neg (fun z => absurd c5071 (Int32.not_lt.mpr z.2)), if_neg (fun z => z.elim c5073 (fun y => absurd c5079 (Int32.not_lt.mpr y))), if_pos (Or.inl c5082)]
          · cases e5082
            cases f5082
            have c5082 := ndc q5082
            refine zSiload (m := 1) (k := 1) vr_21_34 rfl rfl rfl (fun x5086 e5086 => ?_)
            cases e5086
            refine zSp0 (pc' := 37) (st' := .int (-2) :: _) vr_21_35 rfl rfl ?_
            refine zSb2 (f := fun x y => decide (¬ x = y)) (off := 8) (t := 45) vr_21_37 rfl rfl rfl (fun x5088 y5088 e5088 f5088 q5088 => ?_) (fun x5088 y5088 e5088 f5088 q5088 => ?_)
            · cases e5088
              cases f5088
              have c5088 := of_decide_eq_true q5088
              refine zSp0 (pc' := 46) (st' := .int (-1) :: _) vr_21_45 rfl rfl ?_
              refine zLiret vr_21_46 rfl (fun x5090 e5090 => ?_)
              cases e5090
              refine ⟨rfl, congrArg (fun z : Int32 => Sum.inl (some (Value.int z))) ?_⟩
              unfold milT
              rw [if_neg (fun z => absurd c5071 (Int32.not_lt.mpr z.2)), if_neg (fun z => z.elim c5073 (fun y => absurd c5079 (Int32.not_lt.mpr y))), if_neg (fun z => z.elim c5082 c5088)]
            · cases e5088
              cases f5088
              have c5088 := ndc q5088
              refine zSp0 (pc' := 42) (st' := .int (-2) :: _) vr_21_40 rfl rfl ?_
              refine zSgo (t := 46) vr_21_42 rfl rfl ?_
              refine zLiret vr_21_46 rfl (fun x5093 e5093 => ?_)
              cases e5093
              refine ⟨rfl, congrArg (fun z : Int32 => Sum.inl (some (Value.int z))) ?_⟩
              unfold milT
              rw [if_neg (fun z => absurd c5071 (Int32.not_lt.mpr z.2)), if_neg (fun z => z.elim c5073 (fun y => absurd c5079 (Int32.not_lt.mpr y))), if_pos (Or.inr (Decidable.not_not.mp c5088))]
        · cases e5079
          have c5079 := ndc q5079
          refine zSiload (m := 1) (k := 0) vr_21_22 rfl rfl rfl (fun x5094 e5094 => ?_)
          cases e5094
          refine zSiload (m := 1) (k := 1) vr_21_23 rfl rfl rfl (fun x5095 e5095 => ?_)
          cases e5095
          refine zScall vr_21_24 rfl rfl rfl (fun m5096 _ => C_mxI _ _ _ _ _) (fun v5096 h5096 u5096 q5096 => ?_) (fun E5096 h5096 u5096 q5096 => ?_)
          · obtain ⟨eh5096, z5096⟩ := q5096
            subst eh5096
            cases z5096
            show zL zrx zi _ 21 27 [(0, _), (1, _)] [_] _ _ _
            refine zLiret vr_21_27 rfl (fun x5097 e5097 => ?_)
            cases e5097
            refine ⟨rfl, congrArg (fun z : Int32 => Sum.inl (some (Value.int z))) ?_⟩
            unfold milT
            rw [if_neg (fun z => absurd c5071 (Int32.not_lt.mpr z.2)), if_pos (Or.inr (Int32.not_lt.mp c5079))]
          · obtain ⟨-, z⟩ := q5096
            cases z
    · cases e5071
      have c5071 := ndc q5071
      refine zSiload (m := 1) (k := 0) vr_21_8 rfl rfl rfl (fun x5098 e5098 => ?_)
      cases e5098
      refine zSiload (m := 1) (k := 1) vr_21_9 rfl rfl rfl (fun x5099 e5099 => ?_)
      cases e5099
      refine zScall vr_21_10 rfl rfl rfl (fun m5100 _ => C_mnI _ _ _ _ _) (fun v5100 h5100 u5100 q5100 => ?_) (fun E5100 h5100 u5100 q5100 => ?_)
      · obtain ⟨eh5100, z5100⟩ := q5100
        subst eh5100
        cases z5100
        show zL zrx zi _ 21 13 [(0, _), (1, _)] [_] _ _ _
        refine zLiret vr_21_13 rfl (fun x5101 e5101 => ?_)
        cases e5101
        refine ⟨rfl, congrArg (fun z : Int32 => Sum.inl (some (Value.int z))) ?_⟩
        unfold milT
        rw [if_pos ⟨Int32.not_lt.mp c5043, Int32.not_lt.mp c5071⟩]
      · obtain ⟨-, z⟩ := q5100
        cases z
theorem C_cuP (n : Nat) (par d : Int32) (q : Nat) (h : List zC) (u : Nat) {cr : Int32} (hS : Stc h) (hr : gF h 28 2 = some (.int cr)) (r0 : 0 ≤ cr.toInt) (r40 : cr.toInt ≤ 40) : zL zrx zi n 19 0 [(0, .ref 28), (1, .int par), (2, .ref q), (3, .int d)] [] h u (fun o h2 _ => h2 = h ∧ o = .inl (some (.int (cuP h cr par q d)))) := C_ofParish n par d q h u hS hr r0 r40
theorem C_byTie (n : Nat) (q : Nat) (d : Int32) (h : List zC) (u : Nat) {cr : Int32} (hS : Stc h) (hr : gF h 28 2 = some (.int cr)) (r0 : 0 ≤ cr.toInt) (r40 : cr.toInt ≤ 40) (hci : CI h q) : zL zrx zi n 20 0 [(0, .ref 28), (1, .ref q), (2, .int d)] [] h u (fun o h2 _ => h2 = h ∧ o = .inl (some (.int (tieC h cr q d)))) := by
  refine zSaload (m := 1) (k := 0) vr_20_0 rfl rfl rfl ?_
  refine zLget vr_20_1 rfl (fun p5103 w5103 e5103 t5103 g5103 => ?_)
  cases e5103
  first | (rw [(st_28_1 hS)] at g5103; cases g5103) | (rw [(hci.at (j := 0) (by omega))] at g5103; cases g5103) | (rw [(hci.at (j := 1) (by omega))] at g5103; cases g5103) | skip
  refine zSaload (m := 1) (k := 1) vr_20_4 rfl rfl rfl ?_
  refine zLget vr_20_5 rfl (fun p5105 w5105 e5105 t5105 g5105 => ?_)
  cases e5105
  first | (rw [(st_28_1 hS)] at g5105; cases g5105) | (rw [(hci.at (j := 0) (by omega))] at g5105; cases g5105) | (rw [(hci.at (j := 1) (by omega))] at g5105; cases g5105) | skip
  refine zLiald vr_20_8 rfl (fun p5106 x5106 w5106 e5106 f5106 c5106 t5106 g5106 => ?_)
  cases e5106
  cases f5106
  first | (rw [(st_28_1 hS)] at g5106; cases g5106) | (rw [(hci.at (j := 0) (by omega))] at g5106; cases g5106) | (rw [(hci.at (j := 1) (by omega))] at g5106; cases g5106) | skip
  refine zSistore (m := 1) (k := 3) vr_20_9 rfl rfl (fun x5107 e5107 => ?_)
  cases e5107
  show zL zrx zi _ 20 10 [(3, _), (0, _), (1, _), (2, _)] [] _ _ _
  have et : iv h 30 (iv h q 3).toNatClampNeg = _ := (congrArg (fun z : Int32 => iv h 30 z.toNatClampNeg) (iv_of g5105)).trans (iv_of g5106)
  refine zSiload (m := 1) (k := 3) vr_20_10 rfl rfl rfl (fun x5108 e5108 => ?_)
  cases e5108
  refine zSb1 (f := fun x => decide (¬ x = 0)) (off := 14) (t := 25) vr_20_11 rfl rfl rfl (fun x5109 e5109 q5109 => ?_) (fun x5109 e5109 q5109 => ?_)
  · cases e5109
    have c5109 := of_decide_eq_true q5109
    refine zSaload (m := 1) (k := 0) vr_20_25 rfl rfl rfl ?_
    refine zSaload (m := 1) (k := 1) vr_20_26 rfl rfl rfl ?_
    refine zLget vr_20_27 rfl (fun p5112 w5112 e5112 t5112 g5112 => ?_)
    cases e5112
    first | (rw [(st_28_1 hS)] at g5112; cases g5112) | (rw [(hci.at (j := 0) (by omega))] at g5112; cases g5112) | (rw [(hci.at (j := 1) (by omega))] at g5112; cases g5112) | skip
    refine zSaload (m := 1) (k := 1) vr_20_30 rfl rfl rfl ?_
    refine zSiload (m := 1) (k := 2) vr_20_31 rfl rfl rfl (fun x5114 e5114 => ?_)
    cases e5114
    refine zScall vr_20_32 rfl rfl rfl (fun m5115 _ => C_cuP _ _ _ _ _ _ hS hr r0 r40) (fun v5115 h5115 u5115 q5115 => ?_) (fun E5115 h5115 u5115 q5115 => ?_)
    · obtain ⟨eh5115, z5115⟩ := q5115
      replace eh5115 := eh5115.symm
      subst eh5115
      cases z5115
      show zL zrx zi _ 20 35 [(3, _), (0, _), (1, _), (2, _)] [_] _ _ _
      refine zSistore (m := 2) (k := 4) vr_20_35 rfl rfl (fun x5116 e5116 => ?_)
      cases e5116
      show zL zrx zi _ 20 37 [(4, _), (3, _), (0, _), (1, _), (2, _)] [] _ _ _
      refine zSiload (m := 1) (k := 3) vr_20_37 rfl rfl rfl (fun x5117 e5117 => ?_)
      cases e5117
      refine zSp0 (pc' := 39) (st' := .int (1) :: _) vr_20_38 rfl rfl ?_
      refine zSb2 (f := fun x y => decide (¬ x = y)) (off := 6) (t := 45) vr_20_39 rfl rfl rfl (fun x5119 y5119 e5119 f5119 q5119 => ?_) (fun x5119 y5119 e5119 f5119 q5119 => ?_)
      · cases e5119
        cases f5119
        have c5119 := of_decide_eq_true q5119
        refine zSaload (m := 1) (k := 0) vr_20_45 rfl rfl rfl ?_
        refine zSaload (m := 1) (k := 1) vr_20_46 rfl rfl rfl ?_
        refine zLget vr_20_47 rfl (fun p5122 w5122 e5122 t5122 g5122 => ?_)
        cases e5122
        first | (rw [(st_28_1 hS)] at g5122; cases g5122) | (rw [(hci.at (j := 0) (by omega))] at g5122; cases g5122) | (rw [(hci.at (j := 1) (by omega))] at g5122; cases g5122) | skip
        refine zSaload (m := 1) (k := 1) vr_20_50 rfl rfl rfl ?_
        refine zSiload (m := 1) (k := 2) vr_20_51 rfl rfl rfl (fun x5124 e5124 => ?_)
        cases e5124
        refine zScall vr_20_52 rfl rfl rfl (fun m5125 _ => C_cuP _ _ _ _ _ _ hS hr r0 r40) (fun v5125 h5125 u5125 q5125 => ?_) (fun E5125 h5125 u5125 q5125 => ?_)
        · obtain ⟨eh5125, z5125⟩ := q5125
          replace eh5125 := eh5125.symm
          subst eh5125
          cases z5125
          show zL zrx zi _ 20 55 [(4, _), (3, _), (0, _), (1, _), (2, _)] [_] _ _ _
          refine zSiload (m := 2) (k := 4) vr_20_55 rfl rfl rfl (fun x5126 e5126 => ?_)
          cases e5126
          refine zScall vr_20_57 rfl rfl rfl (fun m5127 _ => C_mil _ _ _ _ _) (fun v5127 h5127 u5127 q5127 => ?_) (fun E5127 h5127 u5127 q5127 => ?_)
          · obtain ⟨eh5127, z5127⟩ := q5127
            replace eh5127 := eh5127.symm
            subst eh5127
            cases z5127
            show zL zrx zi _ 20 60 [(4, _), (3, _), (0, _), (1, _), (2, _)] [_] _ _ _
            refine zLiret vr_20_60 rfl (fun x5128 e5128 => ?_)
            cases e5128
            refine ⟨rfl, congrArg (fun z : Int32 => Sum.inl (some (Value.int z))) ?_⟩
            unfold tieC
            rw [et, if_neg c5109, if_neg c5119]
          · obtain ⟨-, z⟩ := q5127
            cases z
        · obtain ⟨-, z⟩ := q5125
          cases z
      · cases e5119
        cases f5119
        have c5119 := ndc q5119
        refine zSiload (m := 2) (k := 4) vr_20_42 rfl rfl rfl (fun x5129 e5129 => ?_)
        cases e5129
        refine zLiret vr_20_44 rfl (fun x5130 e5130 => ?_)
        cases e5130
        refine ⟨rfl, congrArg (fun z : Int32 => Sum.inl (some (Value.int z))) ?_⟩
        unfold tieC
        rw [et, if_neg c5109, if_pos (Decidable.not_not.mp c5119)]
    · obtain ⟨-, z⟩ := q5115
      cases z
  · cases e5109
    have c5109 := ndc q5109
    refine zSaload (m := 1) (k := 0) vr_20_14 rfl rfl rfl ?_
    refine zSaload (m := 1) (k := 1) vr_20_15 rfl rfl rfl ?_
    refine zLget vr_20_16 rfl (fun p5133 w5133 e5133 t5133 g5133 => ?_)
    cases e5133
    first | (rw [(st_28_1 hS)] at g5133; cases g5133) | (rw [(hci.at (j := 0) (by omega))] at g5133; cases g5133) | (rw [(hci.at (j := 1) (by omega))] at g5133; cases g5133) | skip
    refine zSaload (m := 1) (k := 1) vr_20_19 rfl rfl rfl ?_
    refine zSiload (m := 1) (k := 2) vr_20_20 rfl rfl rfl (fun x5135 e5135 => ?_)
    cases e5135
    refine zScall vr_20_21 rfl rfl rfl (fun m5136 _ => C_cuP _ _ _ _ _ _ hS hr r0 r40) (fun v5136 h5136 u5136 q5136 => ?_) (fun E5136 h5136 u5136 q5136 => ?_)
    · obtain ⟨eh5136, z5136⟩ := q5136
      replace eh5136 := eh5136.symm
      subst eh5136
      cases z5136
      show zL zrx zi _ 20 24 [(3, _), (0, _), (1, _), (2, _)] [_] _ _ _
      refine zLiret vr_20_24 rfl (fun x5137 e5137 => ?_)
      cases e5137
      refine ⟨rfl, congrArg (fun z : Int32 => Sum.inl (some (Value.int z))) ?_⟩
      unfold tieC
      rw [et, if_pos (Decidable.not_not.mp c5109)]
    · obtain ⟨-, z⟩ := q5136
      cases z
theorem C_told (n : Nat) (P : Nat → Bool) (D : Nat) (d : Int32) (h : List zC) (u : Nat) {cnt : Int32} (hS : Stc h) (hc : gF h 71 2 = some (.int cnt)) (h0 : 0 ≤ cnt.toInt) (h24 : cnt.toInt ≤ 24) (hCl : ∀ k, k < cnt.toNatClampNeg → ∃ C : Nat, gF h (73 + 4 * k) 1 = some (.ref C) ∧ 239 ≤ C) {ex : Nat → Nat → Bool} (hE : ∀ a, a < cnt.toNatClampNeg → gF h (73 + 4 * a) 5 = some (.int (bS (fun k => ex k a) cnt.toNatClampNeg))) (hO : ∀ k, k < cnt.toNatClampNeg → ¬ 0 ≤ clO h k → ¬ clO h k = -1 → (-2 - clO h k).toNatClampNeg < cnt.toNatClampNeg ∧ 0 ≤ (-2 - clO h k).toInt) (hO2 : ∀ k, k < cnt.toNatClampNeg → (clO h k).toInt ≤ 100) {cr : Int32} {gen : Nat → Bool} (hr : gF h 28 2 = some (.int cr)) (r0 : 0 ≤ cr.toInt) (r40 : cr.toInt ≤ 40) (hG : gF h 71 3 = some (.int (bS gen cnt.toNatClampNeg))) (hK : gF h 71 4 = some (.int (bS (fun k => decide (clO h k = -1)) cnt.toNatClampNeg))) (hT : rT (tieC h cr D d)) (hci : CI h D) : zL zrx zi n 13 0 [(0, .ref 71), (1, .int (bS P cnt.toNatClampNeg)), (2, .ref D), (3, .int d)] [] h u (fun o h2 _ => h2 = h ∧ o = .inl (some (.int (cdC h cnt.toNatClampNeg ex gen P (tieC h cr D d) D)))) := by
  have ck : cnt.toNatClampNeg = cnt.toInt.toNat := rfl
  refine zSaload (m := 1) (k := 0) vr_13_0 rfl rfl rfl ?_
  refine zSiload (m := 1) (k := 1) vr_13_1 rfl rfl rfl (fun x5139 e5139 => ?_)
  cases e5139
  refine zSaload (m := 1) (k := 2) vr_13_2 rfl rfl rfl ?_
  refine zScall vr_13_3 rfl rfl rfl (fun m5141 _ => C_applying _ _ _ _ _ hS hc h0 h24 hCl) (fun v5141 h5141 u5141 q5141 => ?_) (fun E5141 h5141 u5141 q5141 => ?_)
  · obtain ⟨eh5141, z5141⟩ := q5141
    replace eh5141 := eh5141.symm
    subst eh5141
    cases z5141
    show zL zrx zi _ 13 6 [(0, _), (1, _), (2, _), (3, _)] [_] _ _ _
    refine zSistore (m := 2) (k := 4) vr_13_6 rfl rfl (fun x5142 e5142 => ?_)
    cases e5142
    show zL zrx zi _ 13 8 [(4, _), (0, _), (1, _), (2, _), (3, _)] [] _ _ _
    refine zSiload (m := 2) (k := 4) vr_13_8 rfl rfl rfl (fun x5143 e5143 => ?_)
    cases e5143
    refine zSaload (m := 1) (k := 0) vr_13_10 rfl rfl rfl ?_
    refine zLget vr_13_11 rfl (fun p5145 w5145 e5145 t5145 g5145 => ?_)
    cases e5145
    first | (rw [hG] at g5145; cases g5145) | (rw [hK] at g5145; cases g5145) | (rw [(st_71_1 hS)] at g5145; cases g5145) | skip
    refine zS2 (f := fun x y => .int (x &&& y)) vr_13_14 rfl rfl (fun x5146 y5146 e5146 f5146 => ?_)
    cases e5146
    cases f5146
    refine zSb1 (f := fun x => decide (¬ x = 0)) (off := 5) (t := 20) vr_13_15 rfl rfl rfl (fun x5147 e5147 q5147 => ?_) (fun x5147 e5147 q5147 => ?_)
    · cases e5147
      have c5147 := of_decide_eq_true q5147
      refine zSiload (m := 1) (k := 1) vr_13_20 rfl rfl rfl (fun x5148 e5148 => ?_)
      cases e5148
      refine zSaload (m := 1) (k := 0) vr_13_21 rfl rfl rfl ?_
      refine zLget vr_13_22 rfl (fun p5150 w5150 e5150 t5150 g5150 => ?_)
      cases e5150
      first | (rw [hG] at g5150; cases g5150) | (rw [hK] at g5150; cases g5150) | (rw [(st_71_1 hS)] at g5150; cases g5150) | skip
      refine zS2 (f := fun x y => .int (x &&& y)) vr_13_25 rfl rfl (fun x5151 y5151 e5151 f5151 => ?_)
      cases e5151
      cases f5151
      refine zSb1 (f := fun x => decide (¬ x = 0)) (off := 7) (t := 33) vr_13_26 rfl rfl rfl (fun x5152 e5152 q5152 => ?_) (fun x5152 e5152 q5152 => ?_)
      · cases e5152
        have c5152 := of_decide_eq_true q5152
        refine zSaload (m := 1) (k := 0) vr_13_33 rfl rfl rfl ?_
        refine zLget vr_13_34 rfl (fun p5154 w5154 e5154 t5154 g5154 => ?_)
        cases e5154
        first | (rw [hG] at g5154; cases g5154) | (rw [hK] at g5154; cases g5154) | (rw [(st_71_1 hS)] at g5154; cases g5154) | skip
        refine zSaload (m := 1) (k := 2) vr_13_37 rfl rfl rfl ?_
        refine zSiload (m := 1) (k := 3) vr_13_38 rfl rfl rfl (fun x5156 e5156 => ?_)
        cases e5156
        refine zScall vr_13_39 rfl rfl rfl (fun m5157 _ => C_byTie _ _ _ _ _ hS hr r0 r40 hci) (fun v5157 h5157 u5157 q5157 => ?_) (fun E5157 h5157 u5157 q5157 => ?_)
        · obtain ⟨eh5157, z5157⟩ := q5157
          replace eh5157 := eh5157.symm
          subst eh5157
          cases z5157
          show zL zrx zi _ 13 42 [(4, _), (0, _), (1, _), (2, _), (3, _)] [_] _ _ _
          refine zSistore (m := 2) (k := 5) vr_13_42 rfl rfl (fun x5158 e5158 => ?_)
          cases e5158
          show zL zrx zi _ 13 44 [(5, _), (4, _), (0, _), (1, _), (2, _), (3, _)] [] _ _ _
          refine zSaload (m := 1) (k := 0) vr_13_44 rfl rfl rfl ?_
          refine zSiload (m := 2) (k := 4) vr_13_45 rfl rfl rfl (fun x5160 e5160 => ?_)
          cases e5160
          refine zSaload (m := 1) (k := 0) vr_13_47 rfl rfl rfl ?_
          refine zLget vr_13_48 rfl (fun p5162 w5162 e5162 t5162 g5162 => ?_)
          cases e5162
          first | (rw [hG] at g5162; cases g5162) | (rw [hK] at g5162; cases g5162) | (rw [(st_71_1 hS)] at g5162; cases g5162) | skip
          refine zS2 (f := fun x y => .int (x &&& y)) vr_13_51 rfl rfl (fun x5163 y5163 e5163 f5163 => ?_)
          cases e5163
          cases f5163
          rw [bS_and (by omega)]
          refine zSiload (m := 1) (k := 1) vr_13_52 rfl rfl rfl (fun x5164 e5164 => ?_)
          cases e5164
          refine zSiload (m := 2) (k := 4) vr_13_53 rfl rfl rfl (fun x5165 e5165 => ?_)
          cases e5165
          refine zSiload (m := 2) (k := 5) vr_13_55 rfl rfl rfl (fun x5166 e5166 => ?_)
          cases e5166
          refine zSp0 (pc' := 58) (st' := .int (0) :: _) vr_13_57 rfl rfl ?_
          refine zSp0 (pc' := 59) (st' := .int (0) :: _) vr_13_58 rfl rfl ?_
          refine zScall vr_13_59 rfl rfl rfl (fun m5169 _ => (C_tOA hS hc h0 h24 hCl hE hO hO2 (A := (fun k => P k && apC h D k)) (P := P) hT _ _ (Nat.le_refl _)).2 (fun k => (P k && apC h D k) && gen k) 25 (fun _ => false) 0 0 _ (fun j _ => tb_zero j) rfl (by omega)) (fun v5169 h5169 u5169 q5169 => ?_) (fun E5169 h5169 u5169 q5169 => ?_)
          · obtain ⟨eh5169, z5169⟩ := q5169
            replace eh5169 := eh5169.symm
            subst eh5169
            cases z5169
            show zL zrx zi _ 13 62 [(5, _), (4, _), (0, _), (1, _), (2, _), (3, _)] [_] _ _ _
            refine zLiret vr_13_62 rfl (fun x5170 e5170 => ?_)
            cases e5170
            exact ⟨rfl, rfl⟩
          · obtain ⟨-, z⟩ := q5169
            cases z
        · obtain ⟨-, z⟩ := q5157
          cases z
      · cases e5152
        have c5152 := ndc q5152
        refine zSp0 (pc' := 30) (st' := .int (-1) :: _) vr_13_29 rfl rfl ?_
        refine zSgo (t := 42) vr_13_30 rfl rfl ?_
        refine zSistore (m := 2) (k := 5) vr_13_42 rfl rfl (fun x5173 e5173 => ?_)
        cases e5173
        show zL zrx zi _ 13 44 [(5, _), (4, _), (0, _), (1, _), (2, _), (3, _)] [] _ _ _
        refine zSaload (m := 1) (k := 0) vr_13_44 rfl rfl rfl ?_
        refine zSiload (m := 2) (k := 4) vr_13_45 rfl rfl rfl (fun x5175 e5175 => ?_)
        cases e5175
        refine zSaload (m := 1) (k := 0) vr_13_47 rfl rfl rfl ?_
        refine zLget vr_13_48 rfl (fun p5177 w5177 e5177 t5177 g5177 => ?_)
        cases e5177
        first | (rw [hG] at g5177; cases g5177) | (rw [hK] at g5177; cases g5177) | (rw [(st_71_1 hS)] at g5177; cases g5177) | skip
        refine zS2 (f := fun x y => .int (x &&& y)) vr_13_51 rfl rfl (fun x5178 y5178 e5178 f5178 => ?_)
        cases e5178
        cases f5178
        rw [bS_and (by omega)]
        refine zSiload (m := 1) (k := 1) vr_13_52 rfl rfl rfl (fun x5179 e5179 => ?_)
        cases e5179
        refine zSiload (m := 2) (k := 4) vr_13_53 rfl rfl rfl (fun x5180 e5180 => ?_)
        cases e5180
        refine zSiload (m := 2) (k := 5) vr_13_55 rfl rfl rfl (fun x5181 e5181 => ?_)
        cases e5181
        refine zSp0 (pc' := 58) (st' := .int (0) :: _) vr_13_57 rfl rfl ?_
        refine zSp0 (pc' := 59) (st' := .int (0) :: _) vr_13_58 rfl rfl ?_
        refine zScall vr_13_59 rfl rfl rfl (fun m5184 _ => (C_tOA hS hc h0 h24 hCl hE hO hO2 (A := (fun k => P k && apC h D k)) (P := P) (show rT (-1) by decide) _ _ (Nat.le_refl _)).2 (fun k => (P k && apC h D k) && gen k) 25 (fun _ => false) 0 0 _ (fun j _ => tb_zero j) rfl (by omega)) (fun v5184 h5184 u5184 q5184 => ?_) (fun E5184 h5184 u5184 q5184 => ?_)
        · obtain ⟨eh5184, z5184⟩ := q5184
          replace eh5184 := eh5184.symm
          subst eh5184
          cases z5184
          show zL zrx zi _ 13 62 [(5, _), (4, _), (0, _), (1, _), (2, _), (3, _)] [_] _ _ _
          refine zLiret vr_13_62 rfl (fun x5185 e5185 => ?_)
          cases e5185
          refine ⟨rfl, congrArg (fun z : Int32 => Sum.inl (some (Value.int z))) ?_⟩
          exact cdC_cu (cv := tieC h cr D d) (fun k hk pk e => by
            have y := Decidable.not_not.mp c5152
            rw [bS_and (by omega)] at y
            have y2 := (bS_0 (by omega)).mp y k hk
            have y3 : (P k && decide (clO h k = -1)) = false := y2
            rw [pk, decide_eq_true e] at y3
            exact absurd y3 (by decide)) (fun k hk a b => (hO k hk a b).1)
        · obtain ⟨-, z⟩ := q5184
          cases z
    · cases e5147
      have c5147 := ndc q5147
      refine zSp0 (pc' := 19) (st' := .int (-1) :: _) vr_13_18 rfl rfl ?_
      refine zLiret vr_13_19 rfl (fun x5187 e5187 => ?_)
      cases e5187
      refine ⟨rfl, congrArg (fun z : Int32 => Sum.inl (some (Value.int z))) (Eq.symm ?_)⟩
      have y := Decidable.not_not.mp c5147
      rw [bS_and (by omega)] at y
      exact alT_n (foldT_0 (n := cnt.toNatClampNeg) (fun k hk => (bS_0 (by omega)).mp y k hk) _ (Nat.le_refl _))
  · obtain ⟨-, z⟩ := q5141
    cases z
theorem C_toldBy (n : Nat) (P : Nat → Bool) (a D : Nat) (d : Int32) (h : List zC) (u : Nat) {cnt : Int32} (hS : Stc h) (hc : gF h 71 2 = some (.int cnt)) (h0 : 0 ≤ cnt.toInt) (h24 : cnt.toInt ≤ 24) (hCl : ∀ k, k < cnt.toNatClampNeg → ∃ C : Nat, gF h (73 + 4 * k) 1 = some (.ref C) ∧ 239 ≤ C) {ex : Nat → Nat → Bool} (hE : ∀ a, a < cnt.toNatClampNeg → gF h (73 + 4 * a) 5 = some (.int (bS (fun k => ex k a) cnt.toNatClampNeg))) (hO : ∀ k, k < cnt.toNatClampNeg → ¬ 0 ≤ clO h k → ¬ clO h k = -1 → (-2 - clO h k).toNatClampNeg < cnt.toNatClampNeg ∧ 0 ≤ (-2 - clO h k).toInt) (hO2 : ∀ k, k < cnt.toNatClampNeg → (clO h k).toInt ≤ 100) {cr : Int32} {gen : Nat → Bool} (hr : gF h 28 2 = some (.int cr)) (r0 : 0 ≤ cr.toInt) (r40 : cr.toInt ≤ 40) (hG : gF h 71 3 = some (.int (bS gen cnt.toNatClampNeg))) (hK : gF h 71 4 = some (.int (bS (fun k => decide (clO h k = -1)) cnt.toNatClampNeg))) (hT : rT (tieC h cr D d)) (hci : CI h D) (ha : a < cnt.toNatClampNeg) : zL zrx zi n 14 0 [(0, .ref 71), (1, .int (Int32.ofNat a)), (2, .int (bS P cnt.toNatClampNeg)), (3, .ref D), (4, .int d)] [] h u (fun o h2 _ => h2 = h ∧ o = .inl (some (.int (tlT cnt.toNatClampNeg ex (fun k => P k && apC h D k) P (clO h) (tieC h cr D d) 25 a (fun _ => false))))) := by
  have ck : cnt.toNatClampNeg = cnt.toInt.toNat := rfl
  refine zSaload (m := 1) (k := 0) vr_14_0 rfl rfl rfl ?_
  refine zLget vr_14_1 rfl (fun p5189 w5189 e5189 t5189 g5189 => ?_)
  cases e5189
  first | (rw [(st_71_1 hS)] at g5189; cases g5189) | skip
  refine zSaload (m := 1) (k := 3) vr_14_4 rfl rfl rfl ?_
  refine zSiload (m := 2) (k := 4) vr_14_5 rfl rfl rfl (fun x5191 e5191 => ?_)
  cases e5191
  refine zScall vr_14_7 rfl rfl rfl (fun m5192 _ => C_byTie _ _ _ _ _ hS hr r0 r40 hci) (fun v5192 h5192 u5192 q5192 => ?_) (fun E5192 h5192 u5192 q5192 => ?_)
  · obtain ⟨eh5192, z5192⟩ := q5192
    replace eh5192 := eh5192.symm
    subst eh5192
    cases z5192
    show zL zrx zi _ 14 10 [(0, _), (1, _), (2, _), (3, _), (4, _)] [_] _ _ _
    refine zSistore (m := 2) (k := 5) vr_14_10 rfl rfl (fun x5193 e5193 => ?_)
    cases e5193
    show zL zrx zi _ 14 12 [(5, _), (0, _), (1, _), (2, _), (3, _), (4, _)] [] _ _ _
    refine zSaload (m := 1) (k := 0) vr_14_12 rfl rfl rfl ?_
    refine zSiload (m := 1) (k := 1) vr_14_13 rfl rfl rfl (fun x5195 e5195 => ?_)
    cases e5195
    refine zSiload (m := 1) (k := 2) vr_14_14 rfl rfl rfl (fun x5196 e5196 => ?_)
    cases e5196
    refine zSaload (m := 1) (k := 0) vr_14_15 rfl rfl rfl ?_
    refine zSiload (m := 1) (k := 2) vr_14_16 rfl rfl rfl (fun x5198 e5198 => ?_)
    cases e5198
    refine zSaload (m := 1) (k := 3) vr_14_17 rfl rfl rfl ?_
    refine zScall vr_14_18 rfl rfl rfl (fun m5200 _ => C_applying _ _ _ _ _ hS hc h0 h24 hCl) (fun v5200 h5200 u5200 q5200 => ?_) (fun E5200 h5200 u5200 q5200 => ?_)
    · obtain ⟨eh5200, z5200⟩ := q5200
      replace eh5200 := eh5200.symm
      subst eh5200
      cases z5200
      show zL zrx zi _ 14 21 [(5, _), (0, _), (1, _), (2, _), (3, _), (4, _)] [_, _, _, _] _ _ _
      refine zSiload (m := 2) (k := 5) vr_14_21 rfl rfl rfl (fun x5201 e5201 => ?_)
      cases e5201
      refine zSp0 (pc' := 24) (st' := .int (0) :: _) vr_14_23 rfl rfl ?_
      refine zSp0 (pc' := 25) (st' := .int (0) :: _) vr_14_24 rfl rfl ?_
      refine zScall vr_14_25 rfl rfl rfl (fun m5204 _ => (C_tOA hS hc h0 h24 hCl hE hO hO2 (A := (fun k => P k && apC h D k)) (P := P) hT _ _ (Nat.le_refl _)).1 a 25 (fun _ => false) 0 0 _ ha (fun j _ => tb_zero j) rfl (by omega)) (fun v5204 h5204 u5204 q5204 => ?_) (fun E5204 h5204 u5204 q5204 => ?_)
      · obtain ⟨eh5204, z5204⟩ := q5204
        replace eh5204 := eh5204.symm
        subst eh5204
        cases z5204
        show zL zrx zi _ 14 28 [(5, _), (0, _), (1, _), (2, _), (3, _), (4, _)] [_] _ _ _
        refine zLiret vr_14_28 rfl (fun x5205 e5205 => ?_)
        cases e5205
        exact ⟨rfl, rfl⟩
      · obtain ⟨-, z⟩ := q5204
        cases z
    · obtain ⟨-, z⟩ := q5200
      cases z
  · obtain ⟨-, z⟩ := q5192
    cases z
theorem C_byCode (n : Nat) (D : Nat) (d : Int32) (h : List zC) (u : Nat) {cnt : Int32} (hS : Stc h) (hc : gF h 71 2 = some (.int cnt)) (h0 : 0 ≤ cnt.toInt) (h24 : cnt.toInt ≤ 24) (hCl : ∀ k, k < cnt.toNatClampNeg → ∃ C : Nat, gF h (73 + 4 * k) 1 = some (.ref C) ∧ 239 ≤ C) {ex : Nat → Nat → Bool} (hE : ∀ a, a < cnt.toNatClampNeg → gF h (73 + 4 * a) 5 = some (.int (bS (fun k => ex k a) cnt.toNatClampNeg))) (hO : ∀ k, k < cnt.toNatClampNeg → ¬ 0 ≤ clO h k → ¬ clO h k = -1 → (-2 - clO h k).toNatClampNeg < cnt.toNatClampNeg ∧ 0 ≤ (-2 - clO h k).toInt) (hO2 : ∀ k, k < cnt.toNatClampNeg → (clO h k).toInt ≤ 100) {cr : Int32} {gen : Nat → Bool} (hr : gF h 28 2 = some (.int cr)) (r0 : 0 ≤ cr.toInt) (r40 : cr.toInt ≤ 40) (hG : gF h 71 3 = some (.int (bS gen cnt.toNatClampNeg))) (hK : gF h 71 4 = some (.int (bS (fun k => decide (clO h k = -1)) cnt.toNatClampNeg))) (hT : rT (tieC h cr D d)) (hci : CI h D) : zL zrx zi n 101 0 [(0, .ref 16), (1, .ref D), (2, .int d)] [] h u (fun o h2 _ => h2 = h ∧ o = .inl (some (.int (cdC h cnt.toNatClampNeg ex gen (foC h d) (tieC h cr D d) D)))) := by
  refine zSaload (m := 1) (k := 0) vr_101_0 rfl rfl rfl ?_
  refine zLget vr_101_1 rfl (fun p5207 w5207 e5207 t5207 g5207 => ?_)
  cases e5207
  first | (rw [(st_16_10 hS)] at g5207; cases g5207) | skip
  refine zSaload (m := 1) (k := 0) vr_101_4 rfl rfl rfl ?_
  refine zLget vr_101_5 rfl (fun p5209 w5209 e5209 t5209 g5209 => ?_)
  cases e5209
  first | (rw [(st_16_10 hS)] at g5209; cases g5209) | skip
  refine zSiload (m := 1) (k := 2) vr_101_8 rfl rfl rfl (fun x5210 e5210 => ?_)
  cases e5210
  refine zScall vr_101_9 rfl rfl rfl (fun m5211 _ => C_inForce _ _ _ _ hS hc h0 h24) (fun v5211 h5211 u5211 q5211 => ?_) (fun E5211 h5211 u5211 q5211 => ?_)
  · obtain ⟨eh5211, z5211⟩ := q5211
    replace eh5211 := eh5211.symm
    subst eh5211
    cases z5211
    show zL zrx zi _ 101 12 [(0, _), (1, _), (2, _)] [_, _] _ _ _
    refine zSaload (m := 1) (k := 1) vr_101_12 rfl rfl rfl ?_
    refine zSiload (m := 1) (k := 2) vr_101_13 rfl rfl rfl (fun x5213 e5213 => ?_)
    cases e5213
    refine zScall vr_101_14 rfl rfl rfl (fun m5214 _ => C_told _ _ _ _ _ _ hS hc h0 h24 hCl hE hO hO2 hr r0 r40 hG hK hT hci) (fun v5214 h5214 u5214 q5214 => ?_) (fun E5214 h5214 u5214 q5214 => ?_)
    · obtain ⟨eh5214, z5214⟩ := q5214
      replace eh5214 := eh5214.symm
      subst eh5214
      cases z5214
      show zL zrx zi _ 101 17 [(0, _), (1, _), (2, _)] [_] _ _ _
      refine zLiret vr_101_17 rfl (fun x5215 e5215 => ?_)
      cases e5215
      exact ⟨rfl, rfl⟩
    · obtain ⟨-, z⟩ := q5214
      cases z
  · obtain ⟨-, z⟩ := q5211
    cases z

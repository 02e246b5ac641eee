/-! ===== values: all, 6 ===== -/
theorem vr_38_0 : zrx 38 0 = some (.aload_n 0, 0, 0) := by decide +kernel
theorem vr_38_1 : zrx 38 1 = some (.getfield 9, 9, 0) := by decide +kernel
theorem vr_38_4 : zrx 38 4 = some (.aload_n 1, 0, 0) := by decide +kernel
theorem vr_38_5 : zrx 38 5 = some (.getfield 22, 4, 0) := by decide +kernel
theorem vr_38_8 : zrx 38 8 = some (.iaload, 0, 0) := by decide +kernel
theorem vr_38_9 : zrx 38 9 = some (.istore_n 2, 0, 0) := by decide +kernel
theorem vr_38_10 : zrx 38 10 = some (.aload_n 1, 0, 0) := by decide +kernel
theorem vr_38_11 : zrx 38 11 = some (.getfield 27, 4, 6) := by decide +kernel
theorem vr_38_14 : zrx 38 14 = some (.ifCond .ge 7, 0, 0) := by decide +kernel
theorem vr_38_17 : zrx 38 17 = some (.iload_n 2, 0, 0) := by decide +kernel
theorem vr_38_18 : zrx 38 18 = some (.goto 20, 0, 0) := by decide +kernel
theorem vr_38_21 : zrx 38 21 = some (.iload_n 2, 0, 0) := by decide +kernel
theorem vr_38_22 : zrx 38 22 = some (.aload_n 0, 0, 0) := by decide +kernel
theorem vr_38_23 : zrx 38 23 = some (.getfield 30, 9, 2) := by decide +kernel
theorem vr_38_26 : zrx 38 26 = some (.aload_n 1, 0, 0) := by decide +kernel
theorem vr_38_27 : zrx 38 27 = some (.getfield 27, 4, 6) := by decide +kernel
theorem vr_38_30 : zrx 38 30 = some (.bipush 50, 0, 0) := by decide +kernel
theorem vr_38_32 : zrx 38 32 = some (.isub, 0, 0) := by decide +kernel
theorem vr_38_33 : zrx 38 33 = some (.imul, 0, 0) := by decide +kernel
theorem vr_38_34 : zrx 38 34 = some (.bipush 25, 0, 0) := by decide +kernel
theorem vr_38_36 : zrx 38 36 = some (.idiv, 0, 0) := by decide +kernel
theorem vr_38_37 : zrx 38 37 = some (.iadd, 0, 0) := by decide +kernel
theorem vr_38_38 : zrx 38 38 = some (.ireturn, 0, 0) := by decide +kernel
theorem vr_39_0 : zrx 39 0 = some (.iload_n 2, 0, 0) := by decide +kernel
theorem vr_39_1 : zrx 39 1 = some (.ifCond .ne 16, 0, 0) := by decide +kernel
theorem vr_39_4 : zrx 39 4 = some (.aload_n 0, 0, 0) := by decide +kernel
theorem vr_39_5 : zrx 39 5 = some (.getfield 18, 9, 3) := by decide +kernel
theorem vr_39_8 : zrx 39 8 = some (.aload_n 1, 0, 0) := by decide +kernel
theorem vr_39_9 : zrx 39 9 = some (.getfield 33, 3, 0) := by decide +kernel
theorem vr_39_12 : zrx 39 12 = some (.if_icmp .ne 5, 0, 0) := by decide +kernel
theorem vr_39_15 : zrx 39 15 = some (.iconst 1, 0, 0) := by decide +kernel
theorem vr_39_16 : zrx 39 16 = some (.ireturn, 0, 0) := by decide +kernel
theorem vr_39_17 : zrx 39 17 = some (.aload_n 0, 0, 0) := by decide +kernel
theorem vr_39_18 : zrx 39 18 = some (.aload_n 1, 0, 0) := by decide +kernel
theorem vr_39_19 : zrx 39 19 = some (.getfield 38, 3, 1) := by decide +kernel
theorem vr_39_22 : zrx 39 22 = some (.invokevirtual 42, 38, 100) := by decide +kernel
theorem vr_39_25 : zrx 39 25 = some (.iconst 0, 0, 0) := by decide +kernel
theorem vr_39_26 : zrx 39 26 = some (.invokestatic 46, 259, 0) := by decide +kernel
theorem vr_39_29 : zrx 39 29 = some (.istore_n 3, 0, 0) := by decide +kernel
theorem vr_39_30 : zrx 39 30 = some (.iload_n 2, 0, 0) := by decide +kernel
theorem vr_39_31 : zrx 39 31 = some (.ifCond .eq 8, 0, 0) := by decide +kernel
theorem vr_39_34 : zrx 39 34 = some (.iload_n 3, 0, 0) := by decide +kernel
theorem vr_39_35 : zrx 39 35 = some (.ineg, 0, 0) := by decide +kernel
theorem vr_39_36 : zrx 39 36 = some (.goto 4, 0, 0) := by decide +kernel
theorem vr_39_39 : zrx 39 39 = some (.iload_n 3, 0, 0) := by decide +kernel
theorem vr_39_40 : zrx 39 40 = some (.ireturn, 0, 0) := by decide +kernel
theorem vr_49_0 : zrx 49 0 = some (.iconst 0, 0, 0) := by decide +kernel
theorem vr_49_1 : zrx 49 1 = some (.istore_n 2, 0, 0) := by decide +kernel
theorem vr_49_2 : zrx 49 2 = some (.iconst 0, 0, 0) := by decide +kernel
theorem vr_49_3 : zrx 49 3 = some (.istore_n 3, 0, 0) := by decide +kernel
theorem vr_49_4 : zrx 49 4 = some (.iload_n 3, 0, 0) := by decide +kernel
theorem vr_49_5 : zrx 49 5 = some (.iconst 4, 0, 0) := by decide +kernel
theorem vr_49_6 : zrx 49 6 = some (.if_icmp .ge 23, 0, 0) := by decide +kernel
theorem vr_49_9 : zrx 49 9 = some (.iload_n 2, 0, 0) := by decide +kernel
theorem vr_49_10 : zrx 49 10 = some (.aload_n 0, 0, 0) := by decide +kernel
theorem vr_49_11 : zrx 49 11 = some (.getfield 11, 11, 0) := by decide +kernel
theorem vr_49_14 : zrx 49 14 = some (.iload_n 3, 0, 0) := by decide +kernel
theorem vr_49_15 : zrx 49 15 = some (.aaload, 0, 0) := by decide +kernel
theorem vr_49_16 : zrx 49 16 = some (.getfield 18, 9, 1) := by decide +kernel
theorem vr_49_19 : zrx 49 19 = some (.iload_n 1, 0, 0) := by decide +kernel
theorem vr_49_20 : zrx 49 20 = some (.iaload, 0, 0) := by decide +kernel
theorem vr_49_21 : zrx 49 21 = some (.iadd, 0, 0) := by decide +kernel
theorem vr_49_22 : zrx 49 22 = some (.istore_n 2, 0, 0) := by decide +kernel
theorem vr_49_23 : zrx 49 23 = some (.iinc 3 1, 0, 0) := by decide +kernel
theorem vr_49_26 : zrx 49 26 = some (.goto (-22), 0, 0) := by decide +kernel
theorem vr_49_29 : zrx 49 29 = some (.iload_n 2, 0, 0) := by decide +kernel
theorem vr_49_30 : zrx 49 30 = some (.ireturn, 0, 0) := by decide +kernel
theorem vr_51_0 : zrx 51 0 = some (.iconst 0, 0, 0) := by decide +kernel
theorem vr_51_1 : zrx 51 1 = some (.istore 4, 0, 0) := by decide +kernel
theorem vr_51_3 : zrx 51 3 = some (.iconst 0, 0, 0) := by decide +kernel
theorem vr_51_4 : zrx 51 4 = some (.istore 5, 0, 0) := by decide +kernel
theorem vr_51_6 : zrx 51 6 = some (.iload 5, 0, 0) := by decide +kernel
theorem vr_51_8 : zrx 51 8 = some (.iconst 4, 0, 0) := by decide +kernel
theorem vr_51_9 : zrx 51 9 = some (.if_icmp .ge 39, 0, 0) := by decide +kernel
theorem vr_51_12 : zrx 51 12 = some (.iload 4, 0, 0) := by decide +kernel
theorem vr_51_14 : zrx 51 14 = some (.aload_n 0, 0, 0) := by decide +kernel
theorem vr_51_15 : zrx 51 15 = some (.getfield 11, 11, 0) := by decide +kernel
theorem vr_51_18 : zrx 51 18 = some (.iload 5, 0, 0) := by decide +kernel
theorem vr_51_20 : zrx 51 20 = some (.aaload, 0, 0) := by decide +kernel
theorem vr_51_21 : zrx 51 21 = some (.getfield 18, 9, 1) := by decide +kernel
theorem vr_51_24 : zrx 51 24 = some (.iload_n 1, 0, 0) := by decide +kernel
theorem vr_51_25 : zrx 51 25 = some (.iaload, 0, 0) := by decide +kernel
theorem vr_51_26 : zrx 51 26 = some (.aload_n 0, 0, 0) := by decide +kernel
theorem vr_51_27 : zrx 51 27 = some (.getfield 11, 11, 0) := by decide +kernel
theorem vr_51_30 : zrx 51 30 = some (.iload 5, 0, 0) := by decide +kernel
theorem vr_51_32 : zrx 51 32 = some (.aaload, 0, 0) := by decide +kernel
theorem vr_51_33 : zrx 51 33 = some (.aload_n 2, 0, 0) := by decide +kernel
theorem vr_51_34 : zrx 51 34 = some (.iload_n 3, 0, 0) := by decide +kernel
theorem vr_51_35 : zrx 51 35 = some (.invokevirtual 26, 39, 100) := by decide +kernel
theorem vr_51_38 : zrx 51 38 = some (.imul, 0, 0) := by decide +kernel
theorem vr_51_39 : zrx 51 39 = some (.iadd, 0, 0) := by decide +kernel
theorem vr_51_40 : zrx 51 40 = some (.istore 4, 0, 0) := by decide +kernel
theorem vr_51_42 : zrx 51 42 = some (.iinc 5 1, 0, 0) := by decide +kernel
theorem vr_51_45 : zrx 51 45 = some (.goto (-39), 0, 0) := by decide +kernel
theorem vr_51_48 : zrx 51 48 = some (.iload 4, 0, 0) := by decide +kernel
theorem vr_51_50 : zrx 51 50 = some (.ireturn, 0, 0) := by decide +kernel
theorem vr_52_0 : zrx 52 0 = some (.iconst 0, 0, 0) := by decide +kernel
theorem vr_52_1 : zrx 52 1 = some (.istore_n 3, 0, 0) := by decide +kernel
theorem vr_52_2 : zrx 52 2 = some (.iconst 0, 0, 0) := by decide +kernel
theorem vr_52_3 : zrx 52 3 = some (.istore 4, 0, 0) := by decide +kernel
theorem vr_52_5 : zrx 52 5 = some (.iload 4, 0, 0) := by decide +kernel
theorem vr_52_7 : zrx 52 7 = some (.iconst 3, 0, 0) := by decide +kernel
theorem vr_52_8 : zrx 52 8 = some (.if_icmp .ge 23, 0, 0) := by decide +kernel
theorem vr_52_11 : zrx 52 11 = some (.aload_n 0, 0, 0) := by decide +kernel
theorem vr_52_12 : zrx 52 12 = some (.iload 4, 0, 0) := by decide +kernel
theorem vr_52_14 : zrx 52 14 = some (.aload_n 1, 0, 0) := by decide +kernel
theorem vr_52_15 : zrx 52 15 = some (.iload_n 2, 0, 0) := by decide +kernel
theorem vr_52_16 : zrx 52 16 = some (.invokevirtual 30, 51, 120) := by decide +kernel
theorem vr_52_19 : zrx 52 19 = some (.ifCond .le 6, 0, 0) := by decide +kernel
theorem vr_52_22 : zrx 52 22 = some (.iinc 3 1, 0, 0) := by decide +kernel
theorem vr_52_25 : zrx 52 25 = some (.iinc 4 1, 0, 0) := by decide +kernel
theorem vr_52_28 : zrx 52 28 = some (.goto (-23), 0, 0) := by decide +kernel
theorem vr_52_31 : zrx 52 31 = some (.iload_n 3, 0, 0) := by decide +kernel
theorem vr_52_32 : zrx 52 32 = some (.ireturn, 0, 0) := by decide +kernel
theorem vr_66_0 : zrx 66 0 = some (.iload_n 1, 0, 0) := by decide +kernel
theorem vr_66_1 : zrx 66 1 = some (.iconst 3, 0, 0) := by decide +kernel
theorem vr_66_2 : zrx 66 2 = some (.invokestatic 68, 96, 0) := by decide +kernel
theorem vr_66_5 : zrx 66 5 = some (.iload_n 2, 0, 0) := by decide +kernel
theorem vr_66_6 : zrx 66 6 = some (.iconst 4, 0, 0) := by decide +kernel
theorem vr_66_7 : zrx 66 7 = some (.invokestatic 68, 96, 0) := by decide +kernel
theorem vr_66_10 : zrx 66 10 = some (.iload_n 3, 0, 0) := by decide +kernel
theorem vr_66_11 : zrx 66 11 = some (.iconst 0, 0, 0) := by decide +kernel
theorem vr_66_12 : zrx 66 12 = some (.bipush 60, 0, 0) := by decide +kernel
theorem vr_66_14 : zrx 66 14 = some (.invokestatic 72, 97, 0) := by decide +kernel
theorem vr_66_17 : zrx 66 17 = some (.aload_n 0, 0, 0) := by decide +kernel
theorem vr_66_18 : zrx 66 18 = some (.getfield 49, 13, 11) := by decide +kernel
theorem vr_66_21 : zrx 66 21 = some (.getfield 179, 11, 0) := by decide +kernel
theorem vr_66_24 : zrx 66 24 = some (.iload_n 2, 0, 0) := by decide +kernel
theorem vr_66_25 : zrx 66 25 = some (.aaload, 0, 0) := by decide +kernel
theorem vr_66_26 : zrx 66 26 = some (.getfield 183, 9, 1) := by decide +kernel
theorem vr_66_29 : zrx 66 29 = some (.iload_n 1, 0, 0) := by decide +kernel
theorem vr_66_30 : zrx 66 30 = some (.iload_n 3, 0, 0) := by decide +kernel
theorem vr_66_31 : zrx 66 31 = some (.iastore, 0, 0) := by decide +kernel
theorem vr_66_32 : zrx 66 32 = some (.aload_n 0, 0, 0) := by decide +kernel
theorem vr_66_33 : zrx 66 33 = some (.getfield 49, 13, 11) := by decide +kernel
theorem vr_66_36 : zrx 66 36 = some (.iload_n 1, 0, 0) := by decide +kernel
theorem vr_66_37 : zrx 66 37 = some (.invokevirtual 188, 49, 120) := by decide +kernel
theorem vr_66_40 : zrx 66 40 = some (.ireturn, 0, 0) := by decide +kernel
theorem vr_67_0 : zrx 67 0 = some (.iload_n 1, 0, 0) := by decide +kernel
theorem vr_67_1 : zrx 67 1 = some (.iconst 4, 0, 0) := by decide +kernel
theorem vr_67_2 : zrx 67 2 = some (.invokestatic 68, 96, 0) := by decide +kernel
theorem vr_67_5 : zrx 67 5 = some (.iload_n 2, 0, 0) := by decide +kernel
theorem vr_67_6 : zrx 67 6 = some (.iconst 4, 0, 0) := by decide +kernel
theorem vr_67_7 : zrx 67 7 = some (.invokestatic 68, 96, 0) := by decide +kernel
theorem vr_67_10 : zrx 67 10 = some (.iload_n 3, 0, 0) := by decide +kernel
theorem vr_67_11 : zrx 67 11 = some (.bipush (-5), 0, 0) := by decide +kernel
theorem vr_67_13 : zrx 67 13 = some (.iconst 5, 0, 0) := by decide +kernel
theorem vr_67_14 : zrx 67 14 = some (.invokestatic 72, 97, 0) := by decide +kernel
theorem vr_67_17 : zrx 67 17 = some (.aload_n 0, 0, 0) := by decide +kernel
theorem vr_67_18 : zrx 67 18 = some (.getfield 49, 13, 11) := by decide +kernel
theorem vr_67_21 : zrx 67 21 = some (.getfield 179, 11, 0) := by decide +kernel
theorem vr_67_24 : zrx 67 24 = some (.iload_n 1, 0, 0) := by decide +kernel
theorem vr_67_25 : zrx 67 25 = some (.aaload, 0, 0) := by decide +kernel
theorem vr_67_26 : zrx 67 26 = some (.getfield 191, 9, 0) := by decide +kernel
theorem vr_67_29 : zrx 67 29 = some (.iload_n 2, 0, 0) := by decide +kernel
theorem vr_67_30 : zrx 67 30 = some (.iaload, 0, 0) := by decide +kernel
theorem vr_67_31 : zrx 67 31 = some (.istore 4, 0, 0) := by decide +kernel
theorem vr_67_33 : zrx 67 33 = some (.aload_n 0, 0, 0) := by decide +kernel
theorem vr_67_34 : zrx 67 34 = some (.getfield 49, 13, 11) := by decide +kernel
theorem vr_67_37 : zrx 67 37 = some (.getfield 179, 11, 0) := by decide +kernel
theorem vr_67_40 : zrx 67 40 = some (.iload_n 1, 0, 0) := by decide +kernel
theorem vr_67_41 : zrx 67 41 = some (.aaload, 0, 0) := by decide +kernel
theorem vr_67_42 : zrx 67 42 = some (.getfield 191, 9, 0) := by decide +kernel
theorem vr_67_45 : zrx 67 45 = some (.iload_n 2, 0, 0) := by decide +kernel
theorem vr_67_46 : zrx 67 46 = some (.iload_n 3, 0, 0) := by decide +kernel
theorem vr_67_47 : zrx 67 47 = some (.iastore, 0, 0) := by decide +kernel
theorem vr_67_48 : zrx 67 48 = some (.iload 4, 0, 0) := by decide +kernel
theorem vr_67_50 : zrx 67 50 = some (.ireturn, 0, 0) := by decide +kernel
theorem vr_68_0 : zrx 68 0 = some (.iload_n 1, 0, 0) := by decide +kernel
theorem vr_68_1 : zrx 68 1 = some (.iconst 4, 0, 0) := by decide +kernel
theorem vr_68_2 : zrx 68 2 = some (.invokestatic 68, 96, 0) := by decide +kernel
theorem vr_68_5 : zrx 68 5 = some (.iload_n 2, 0, 0) := by decide +kernel
theorem vr_68_6 : zrx 68 6 = some (.bipush (-3), 0, 0) := by decide +kernel
theorem vr_68_8 : zrx 68 8 = some (.iconst 3, 0, 0) := by decide +kernel
theorem vr_68_9 : zrx 68 9 = some (.invokestatic 72, 97, 0) := by decide +kernel
theorem vr_68_12 : zrx 68 12 = some (.aload_n 0, 0, 0) := by decide +kernel
theorem vr_68_13 : zrx 68 13 = some (.getfield 49, 13, 11) := by decide +kernel
theorem vr_68_16 : zrx 68 16 = some (.getfield 179, 11, 0) := by decide +kernel
theorem vr_68_19 : zrx 68 19 = some (.iload_n 1, 0, 0) := by decide +kernel
theorem vr_68_20 : zrx 68 20 = some (.aaload, 0, 0) := by decide +kernel
theorem vr_68_21 : zrx 68 21 = some (.getfield 194, 9, 2) := by decide +kernel
theorem vr_68_24 : zrx 68 24 = some (.istore_n 3, 0, 0) := by decide +kernel
theorem vr_68_25 : zrx 68 25 = some (.aload_n 0, 0, 0) := by decide +kernel
theorem vr_68_26 : zrx 68 26 = some (.getfield 49, 13, 11) := by decide +kernel
theorem vr_68_29 : zrx 68 29 = some (.getfield 179, 11, 0) := by decide +kernel
theorem vr_68_32 : zrx 68 32 = some (.iload_n 1, 0, 0) := by decide +kernel
theorem vr_68_33 : zrx 68 33 = some (.aaload, 0, 0) := by decide +kernel
theorem vr_68_34 : zrx 68 34 = some (.iload_n 2, 0, 0) := by decide +kernel
theorem vr_68_35 : zrx 68 35 = some (.putfield 194, 9, 2) := by decide +kernel
theorem vr_68_38 : zrx 68 38 = some (.iload_n 3, 0, 0) := by decide +kernel
theorem vr_68_39 : zrx 68 39 = some (.ireturn, 0, 0) := by decide +kernel
theorem vr_75_0 : zrx 75 0 = some (.iload_n 1, 0, 0) := by decide +kernel
theorem vr_75_1 : zrx 75 1 = some (.iconst 1, 0, 0) := by decide +kernel
theorem vr_75_2 : zrx 75 2 = some (.sipush 400, 0, 0) := by decide +kernel
theorem vr_75_5 : zrx 75 5 = some (.invokestatic 72, 97, 0) := by decide +kernel
theorem vr_75_8 : zrx 75 8 = some (.aload_n 0, 0, 0) := by decide +kernel
theorem vr_75_9 : zrx 75 9 = some (.getfield 123, 13, 0) := by decide +kernel
theorem vr_75_12 : zrx 75 12 = some (.iload_n 1, 0, 0) := by decide +kernel
theorem vr_75_13 : zrx 75 13 = some (.iadd, 0, 0) := by decide +kernel
theorem vr_75_14 : zrx 75 14 = some (.sipush 3000, 0, 0) := by decide +kernel
theorem vr_75_17 : zrx 75 17 = some (.if_icmp .gt 7, 0, 0) := by decide +kernel
theorem vr_75_20 : zrx 75 20 = some (.iconst 1, 0, 0) := by decide +kernel
theorem vr_75_21 : zrx 75 21 = some (.goto 4, 0, 0) := by decide +kernel
theorem vr_75_24 : zrx 75 24 = some (.iconst 0, 0, 0) := by decide +kernel
theorem vr_75_25 : zrx 75 25 = some (.invokestatic 83, 98, 0) := by decide +kernel
theorem vr_75_28 : zrx 75 28 = some (.aload_n 0, 0, 0) := by decide +kernel
theorem vr_75_29 : zrx 75 29 = some (.dup, 0, 0) := by decide +kernel
theorem vr_75_30 : zrx 75 30 = some (.getfield 123, 13, 0) := by decide +kernel
theorem vr_75_33 : zrx 75 33 = some (.iload_n 1, 0, 0) := by decide +kernel
theorem vr_75_34 : zrx 75 34 = some (.iadd, 0, 0) := by decide +kernel
theorem vr_75_35 : zrx 75 35 = some (.putfield 123, 13, 0) := by decide +kernel
theorem vr_75_38 : zrx 75 38 = some (.aload_n 0, 0, 0) := by decide +kernel
theorem vr_75_39 : zrx 75 39 = some (.getfield 123, 13, 0) := by decide +kernel
theorem vr_75_42 : zrx 75 42 = some (.ireturn, 0, 0) := by decide +kernel
theorem vr_163_0 : zrx 163 0 = some (.aload_n 0, 0, 0) := by decide +kernel
theorem vr_163_1 : zrx 163 1 = some (.iconst 0, 0, 0) := by decide +kernel
theorem vr_163_2 : zrx 163 2 = some (.putfield 55, 18, 0) := by decide +kernel
theorem vr_163_5 : zrx 163 5 = some (.iload_n 1, 0, 0) := by decide +kernel
theorem vr_163_6 : zrx 163 6 = some (.iconst 0, 0, 0) := by decide +kernel
theorem vr_163_7 : zrx 163 7 = some (.iconst 2, 0, 0) := by decide +kernel
theorem vr_163_8 : zrx 163 8 = some (.invokestatic 209, 132, 0) := by decide +kernel
theorem vr_163_11 : zrx 163 11 = some (.ifCond .eq 12, 0, 0) := by decide +kernel
theorem vr_163_14 : zrx 163 14 = some (.iload_n 2, 0, 0) := by decide +kernel
theorem vr_163_15 : zrx 163 15 = some (.iconst 0, 0, 0) := by decide +kernel
theorem vr_163_16 : zrx 163 16 = some (.iconst 3, 0, 0) := by decide +kernel
theorem vr_163_17 : zrx 163 17 = some (.invokestatic 209, 132, 0) := by decide +kernel
theorem vr_163_20 : zrx 163 20 = some (.ifCond .ne 9, 0, 0) := by decide +kernel
theorem vr_163_23 : zrx 163 23 = some (.aload_n 0, 0, 0) := by decide +kernel
theorem vr_163_24 : zrx 163 24 = some (.iconst 1, 0, 0) := by decide +kernel
theorem vr_163_25 : zrx 163 25 = some (.invokevirtual 212, 131, 190) := by decide +kernel
theorem vr_163_28 : zrx 163 28 = some (.ireturn, 0, 0) := by decide +kernel
theorem vr_163_29 : zrx 163 29 = some (.iload_n 3, 0, 0) := by decide +kernel
theorem vr_163_30 : zrx 163 30 = some (.iconst 0, 0, 0) := by decide +kernel
theorem vr_163_31 : zrx 163 31 = some (.bipush 60, 0, 0) := by decide +kernel
theorem vr_163_33 : zrx 163 33 = some (.invokestatic 209, 132, 0) := by decide +kernel
theorem vr_163_36 : zrx 163 36 = some (.ifCond .ne 9, 0, 0) := by decide +kernel
theorem vr_163_39 : zrx 163 39 = some (.aload_n 0, 0, 0) := by decide +kernel
theorem vr_163_40 : zrx 163 40 = some (.iconst 2, 0, 0) := by decide +kernel
theorem vr_163_41 : zrx 163 41 = some (.invokevirtual 212, 131, 190) := by decide +kernel
theorem vr_163_44 : zrx 163 44 = some (.ireturn, 0, 0) := by decide +kernel
theorem vr_163_45 : zrx 163 45 = some (.aload_n 0, 0, 0) := by decide +kernel
theorem vr_163_46 : zrx 163 46 = some (.getfield 40, 18, 11) := by decide +kernel
theorem vr_163_49 : zrx 163 49 = some (.iload_n 1, 0, 0) := by decide +kernel
theorem vr_163_50 : zrx 163 50 = some (.aaload, 0, 0) := by decide +kernel
theorem vr_163_51 : zrx 163 51 = some (.iload_n 2, 0, 0) := by decide +kernel
theorem vr_163_52 : zrx 163 52 = some (.iload_n 3, 0, 0) := by decide +kernel
theorem vr_163_53 : zrx 163 53 = some (.iastore, 0, 0) := by decide +kernel
theorem vr_163_54 : zrx 163 54 = some (.aload_n 0, 0, 0) := by decide +kernel
theorem vr_163_55 : zrx 163 55 = some (.getfield 40, 18, 11) := by decide +kernel
theorem vr_163_58 : zrx 163 58 = some (.iload_n 1, 0, 0) := by decide +kernel
theorem vr_163_59 : zrx 163 59 = some (.aaload, 0, 0) := by decide +kernel
theorem vr_163_60 : zrx 163 60 = some (.iconst 0, 0, 0) := by decide +kernel
theorem vr_163_61 : zrx 163 61 = some (.iaload, 0, 0) := by decide +kernel
theorem vr_163_62 : zrx 163 62 = some (.aload_n 0, 0, 0) := by decide +kernel
theorem vr_163_63 : zrx 163 63 = some (.getfield 40, 18, 11) := by decide +kernel
theorem vr_163_66 : zrx 163 66 = some (.iload_n 1, 0, 0) := by decide +kernel
theorem vr_163_67 : zrx 163 67 = some (.aaload, 0, 0) := by decide +kernel
theorem vr_163_68 : zrx 163 68 = some (.iconst 1, 0, 0) := by decide +kernel
theorem vr_163_69 : zrx 163 69 = some (.iaload, 0, 0) := by decide +kernel
theorem vr_163_70 : zrx 163 70 = some (.iadd, 0, 0) := by decide +kernel
theorem vr_163_71 : zrx 163 71 = some (.aload_n 0, 0, 0) := by decide +kernel
theorem vr_163_72 : zrx 163 72 = some (.getfield 40, 18, 11) := by decide +kernel
theorem vr_163_75 : zrx 163 75 = some (.iload_n 1, 0, 0) := by decide +kernel
theorem vr_163_76 : zrx 163 76 = some (.aaload, 0, 0) := by decide +kernel
theorem vr_163_77 : zrx 163 77 = some (.iconst 2, 0, 0) := by decide +kernel
theorem vr_163_78 : zrx 163 78 = some (.iaload, 0, 0) := by decide +kernel
theorem vr_163_79 : zrx 163 79 = some (.iadd, 0, 0) := by decide +kernel
theorem vr_163_80 : zrx 163 80 = some (.aload_n 0, 0, 0) := by decide +kernel
theorem vr_163_81 : zrx 163 81 = some (.getfield 40, 18, 11) := by decide +kernel
theorem vr_163_84 : zrx 163 84 = some (.iload_n 1, 0, 0) := by decide +kernel
theorem vr_163_85 : zrx 163 85 = some (.aaload, 0, 0) := by decide +kernel
theorem vr_163_86 : zrx 163 86 = some (.iconst 3, 0, 0) := by decide +kernel
theorem vr_163_87 : zrx 163 87 = some (.iaload, 0, 0) := by decide +kernel
theorem vr_163_88 : zrx 163 88 = some (.iadd, 0, 0) := by decide +kernel
theorem vr_163_89 : zrx 163 89 = some (.ireturn, 0, 0) := by decide +kernel
theorem vr_164_0 : zrx 164 0 = some (.aload_n 0, 0, 0) := by decide +kernel
theorem vr_164_1 : zrx 164 1 = some (.iconst 0, 0, 0) := by decide +kernel
theorem vr_164_2 : zrx 164 2 = some (.putfield 55, 18, 0) := by decide +kernel
theorem vr_164_5 : zrx 164 5 = some (.iload_n 1, 0, 0) := by decide +kernel
theorem vr_164_6 : zrx 164 6 = some (.iconst 0, 0, 0) := by decide +kernel
theorem vr_164_7 : zrx 164 7 = some (.iconst 3, 0, 0) := by decide +kernel
theorem vr_164_8 : zrx 164 8 = some (.invokestatic 209, 132, 0) := by decide +kernel
theorem vr_164_11 : zrx 164 11 = some (.ifCond .eq 12, 0, 0) := by decide +kernel
theorem vr_164_14 : zrx 164 14 = some (.iload_n 2, 0, 0) := by decide +kernel
theorem vr_164_15 : zrx 164 15 = some (.iconst 0, 0, 0) := by decide +kernel
theorem vr_164_16 : zrx 164 16 = some (.iconst 3, 0, 0) := by decide +kernel
theorem vr_164_17 : zrx 164 17 = some (.invokestatic 209, 132, 0) := by decide +kernel
theorem vr_164_20 : zrx 164 20 = some (.ifCond .ne 9, 0, 0) := by decide +kernel
theorem vr_164_23 : zrx 164 23 = some (.aload_n 0, 0, 0) := by decide +kernel
theorem vr_164_24 : zrx 164 24 = some (.iconst 1, 0, 0) := by decide +kernel
theorem vr_164_25 : zrx 164 25 = some (.invokevirtual 212, 131, 190) := by decide +kernel
theorem vr_164_28 : zrx 164 28 = some (.ireturn, 0, 0) := by decide +kernel
theorem vr_164_29 : zrx 164 29 = some (.iload_n 3, 0, 0) := by decide +kernel
theorem vr_164_30 : zrx 164 30 = some (.bipush (-5), 0, 0) := by decide +kernel
theorem vr_164_32 : zrx 164 32 = some (.iconst 5, 0, 0) := by decide +kernel
theorem vr_164_33 : zrx 164 33 = some (.invokestatic 209, 132, 0) := by decide +kernel
theorem vr_164_36 : zrx 164 36 = some (.ifCond .ne 9, 0, 0) := by decide +kernel
theorem vr_164_39 : zrx 164 39 = some (.aload_n 0, 0, 0) := by decide +kernel
theorem vr_164_40 : zrx 164 40 = some (.iconst 2, 0, 0) := by decide +kernel
theorem vr_164_41 : zrx 164 41 = some (.invokevirtual 212, 131, 190) := by decide +kernel
theorem vr_164_44 : zrx 164 44 = some (.ireturn, 0, 0) := by decide +kernel
theorem vr_164_45 : zrx 164 45 = some (.aload_n 0, 0, 0) := by decide +kernel
theorem vr_164_46 : zrx 164 46 = some (.getfield 43, 18, 12) := by decide +kernel
theorem vr_164_49 : zrx 164 49 = some (.iload_n 1, 0, 0) := by decide +kernel
theorem vr_164_50 : zrx 164 50 = some (.aaload, 0, 0) := by decide +kernel
theorem vr_164_51 : zrx 164 51 = some (.iload_n 2, 0, 0) := by decide +kernel
theorem vr_164_52 : zrx 164 52 = some (.iaload, 0, 0) := by decide +kernel
theorem vr_164_53 : zrx 164 53 = some (.istore 4, 0, 0) := by decide +kernel
theorem vr_164_55 : zrx 164 55 = some (.aload_n 0, 0, 0) := by decide +kernel
theorem vr_164_56 : zrx 164 56 = some (.getfield 43, 18, 12) := by decide +kernel
theorem vr_164_59 : zrx 164 59 = some (.iload_n 1, 0, 0) := by decide +kernel
theorem vr_164_60 : zrx 164 60 = some (.aaload, 0, 0) := by decide +kernel
theorem vr_164_61 : zrx 164 61 = some (.iload_n 2, 0, 0) := by decide +kernel
theorem vr_164_62 : zrx 164 62 = some (.iload_n 3, 0, 0) := by decide +kernel
theorem vr_164_63 : zrx 164 63 = some (.iastore, 0, 0) := by decide +kernel
theorem vr_164_64 : zrx 164 64 = some (.iload 4, 0, 0) := by decide +kernel
theorem vr_164_66 : zrx 164 66 = some (.ireturn, 0, 0) := by decide +kernel
theorem vr_165_0 : zrx 165 0 = some (.aload_n 0, 0, 0) := by decide +kernel
theorem vr_165_1 : zrx 165 1 = some (.iconst 0, 0, 0) := by decide +kernel
theorem vr_165_2 : zrx 165 2 = some (.putfield 55, 18, 0) := by decide +kernel
theorem vr_165_5 : zrx 165 5 = some (.iload_n 1, 0, 0) := by decide +kernel
theorem vr_165_6 : zrx 165 6 = some (.iconst 0, 0, 0) := by decide +kernel
theorem vr_165_7 : zrx 165 7 = some (.iconst 3, 0, 0) := by decide +kernel
theorem vr_165_8 : zrx 165 8 = some (.invokestatic 209, 132, 0) := by decide +kernel
theorem vr_165_11 : zrx 165 11 = some (.ifCond .ne 9, 0, 0) := by decide +kernel
theorem vr_165_14 : zrx 165 14 = some (.aload_n 0, 0, 0) := by decide +kernel
theorem vr_165_15 : zrx 165 15 = some (.iconst 1, 0, 0) := by decide +kernel
theorem vr_165_16 : zrx 165 16 = some (.invokevirtual 212, 131, 190) := by decide +kernel
theorem vr_165_19 : zrx 165 19 = some (.ireturn, 0, 0) := by decide +kernel
theorem vr_165_20 : zrx 165 20 = some (.iload_n 2, 0, 0) := by decide +kernel
theorem vr_165_21 : zrx 165 21 = some (.bipush (-3), 0, 0) := by decide +kernel
theorem vr_165_23 : zrx 165 23 = some (.iconst 3, 0, 0) := by decide +kernel
theorem vr_165_24 : zrx 165 24 = some (.invokestatic 209, 132, 0) := by decide +kernel
theorem vr_165_27 : zrx 165 27 = some (.ifCond .ne 9, 0, 0) := by decide +kernel
theorem vr_165_30 : zrx 165 30 = some (.aload_n 0, 0, 0) := by decide +kernel
theorem vr_165_31 : zrx 165 31 = some (.iconst 2, 0, 0) := by decide +kernel
theorem vr_165_32 : zrx 165 32 = some (.invokevirtual 212, 131, 190) := by decide +kernel
theorem vr_165_35 : zrx 165 35 = some (.ireturn, 0, 0) := by decide +kernel
theorem vr_165_36 : zrx 165 36 = some (.aload_n 0, 0, 0) := by decide +kernel
theorem vr_165_37 : zrx 165 37 = some (.getfield 46, 18, 13) := by decide +kernel
theorem vr_165_40 : zrx 165 40 = some (.iload_n 1, 0, 0) := by decide +kernel
theorem vr_165_41 : zrx 165 41 = some (.iaload, 0, 0) := by decide +kernel
theorem vr_165_42 : zrx 165 42 = some (.istore_n 3, 0, 0) := by decide +kernel
theorem vr_165_43 : zrx 165 43 = some (.aload_n 0, 0, 0) := by decide +kernel
theorem vr_165_44 : zrx 165 44 = some (.getfield 46, 18, 13) := by decide +kernel
theorem vr_165_47 : zrx 165 47 = some (.iload_n 1, 0, 0) := by decide +kernel
theorem vr_165_48 : zrx 165 48 = some (.iload_n 2, 0, 0) := by decide +kernel
theorem vr_165_49 : zrx 165 49 = some (.iastore, 0, 0) := by decide +kernel
theorem vr_165_50 : zrx 165 50 = some (.iload_n 3, 0, 0) := by decide +kernel
theorem vr_165_51 : zrx 165 51 = some (.ireturn, 0, 0) := by decide +kernel
theorem vr_167_0 : zrx 167 0 = some (.aload_n 0, 0, 0) := by decide +kernel
theorem vr_167_1 : zrx 167 1 = some (.getfield 31, 18, 9) := by decide +kernel
theorem vr_167_4 : zrx 167 4 = some (.iload_n 2, 0, 0) := by decide +kernel
theorem vr_167_5 : zrx 167 5 = some (.invokeinterface 65 2, 306, 35) := by decide +kernel
theorem vr_167_10 : zrx 167 10 = some (.checkcast 108, 15, 0) := by decide +kernel
theorem vr_167_13 : zrx 167 13 = some (.astore_n 3, 0, 0) := by decide +kernel
theorem vr_167_14 : zrx 167 14 = some (.aload_n 0, 0, 0) := by decide +kernel
theorem vr_167_15 : zrx 167 15 = some (.getfield 43, 18, 12) := by decide +kernel
theorem vr_167_18 : zrx 167 18 = some (.iload_n 1, 0, 0) := by decide +kernel
theorem vr_167_19 : zrx 167 19 = some (.aaload, 0, 0) := by decide +kernel
theorem vr_167_20 : zrx 167 20 = some (.aload_n 3, 0, 0) := by decide +kernel
theorem vr_167_21 : zrx 167 21 = some (.getfield 183, 15, 0) := by decide +kernel
theorem vr_167_24 : zrx 167 24 = some (.iaload, 0, 0) := by decide +kernel
theorem vr_167_25 : zrx 167 25 = some (.aload_n 3, 0, 0) := by decide +kernel
theorem vr_167_26 : zrx 167 26 = some (.getfield 134, 15, 7) := by decide +kernel
theorem vr_167_29 : zrx 167 29 = some (.ifCond .lt 23, 0, 0) := by decide +kernel
theorem vr_167_32 : zrx 167 32 = some (.aload_n 0, 0, 0) := by decide +kernel
theorem vr_167_33 : zrx 167 33 = some (.getfield 46, 18, 13) := by decide +kernel
theorem vr_167_36 : zrx 167 36 = some (.iload_n 1, 0, 0) := by decide +kernel
theorem vr_167_37 : zrx 167 37 = some (.iaload, 0, 0) := by decide +kernel
theorem vr_167_38 : zrx 167 38 = some (.aload_n 3, 0, 0) := by decide +kernel
theorem vr_167_39 : zrx 167 39 = some (.getfield 134, 15, 7) := by decide +kernel
theorem vr_167_42 : zrx 167 42 = some (.bipush 50, 0, 0) := by decide +kernel
theorem vr_167_44 : zrx 167 44 = some (.isub, 0, 0) := by decide +kernel
theorem vr_167_45 : zrx 167 45 = some (.imul, 0, 0) := by decide +kernel
theorem vr_167_46 : zrx 167 46 = some (.bipush 25, 0, 0) := by decide +kernel
theorem vr_167_48 : zrx 167 48 = some (.idiv, 0, 0) := by decide +kernel
theorem vr_167_49 : zrx 167 49 = some (.goto 4, 0, 0) := by decide +kernel
theorem vr_167_52 : zrx 167 52 = some (.iconst 0, 0, 0) := by decide +kernel
theorem vr_167_53 : zrx 167 53 = some (.iadd, 0, 0) := by decide +kernel
theorem vr_167_54 : zrx 167 54 = some (.ireturn, 0, 0) := by decide +kernel
theorem vr_168_0 : zrx 168 0 = some (.iconst 0, 0, 0) := by decide +kernel
theorem vr_168_1 : zrx 168 1 = some (.istore 4, 0, 0) := by decide +kernel
theorem vr_168_3 : zrx 168 3 = some (.iconst 0, 0, 0) := by decide +kernel
theorem vr_168_4 : zrx 168 4 = some (.istore 5, 0, 0) := by decide +kernel
theorem vr_168_6 : zrx 168 6 = some (.iload 5, 0, 0) := by decide +kernel
theorem vr_168_8 : zrx 168 8 = some (.iconst 4, 0, 0) := by decide +kernel
theorem vr_168_9 : zrx 168 9 = some (.if_icmp .ge 88, 0, 0) := by decide +kernel
theorem vr_168_12 : zrx 168 12 = some (.aload_n 0, 0, 0) := by decide +kernel
theorem vr_168_13 : zrx 168 13 = some (.iload 5, 0, 0) := by decide +kernel
theorem vr_168_15 : zrx 168 15 = some (.iload_n 1, 0, 0) := by decide +kernel
theorem vr_168_16 : zrx 168 16 = some (.invokevirtual 266, 167, 190) := by decide +kernel
theorem vr_168_19 : zrx 168 19 = some (.istore 6, 0, 0) := by decide +kernel
theorem vr_168_21 : zrx 168 21 = some (.iload_n 3, 0, 0) := by decide +kernel
theorem vr_168_22 : zrx 168 22 = some (.ifCond .eq 9, 0, 0) := by decide +kernel
theorem vr_168_25 : zrx 168 25 = some (.iload 6, 0, 0) := by decide +kernel
theorem vr_168_27 : zrx 168 27 = some (.ineg, 0, 0) := by decide +kernel
theorem vr_168_28 : zrx 168 28 = some (.goto 20, 0, 0) := by decide +kernel
theorem vr_168_31 : zrx 168 31 = some (.aload_n 0, 0, 0) := by decide +kernel
theorem vr_168_32 : zrx 168 32 = some (.getfield 49, 18, 14) := by decide +kernel
theorem vr_168_35 : zrx 168 35 = some (.iload 5, 0, 0) := by decide +kernel
theorem vr_168_37 : zrx 168 37 = some (.iaload, 0, 0) := by decide +kernel
theorem vr_168_38 : zrx 168 38 = some (.iload_n 1, 0, 0) := by decide +kernel
theorem vr_168_39 : zrx 168 39 = some (.if_icmp .ne 7, 0, 0) := by decide +kernel
theorem vr_168_42 : zrx 168 42 = some (.iconst 1, 0, 0) := by decide +kernel
theorem vr_168_43 : zrx 168 43 = some (.goto 5, 0, 0) := by decide +kernel
theorem vr_168_46 : zrx 168 46 = some (.iload 6, 0, 0) := by decide +kernel
theorem vr_168_48 : zrx 168 48 = some (.istore 7, 0, 0) := by decide +kernel
theorem vr_168_50 : zrx 168 50 = some (.iload 4, 0, 0) := by decide +kernel
theorem vr_168_52 : zrx 168 52 = some (.iload 7, 0, 0) := by decide +kernel
theorem vr_168_54 : zrx 168 54 = some (.ifCond .le 15, 0, 0) := by decide +kernel
theorem vr_168_57 : zrx 168 57 = some (.aload_n 0, 0, 0) := by decide +kernel
theorem vr_168_58 : zrx 168 58 = some (.getfield 40, 18, 11) := by decide +kernel
theorem vr_168_61 : zrx 168 61 = some (.iload_n 2, 0, 0) := by decide +kernel
theorem vr_168_62 : zrx 168 62 = some (.aaload, 0, 0) := by decide +kernel
theorem vr_168_63 : zrx 168 63 = some (.iload 5, 0, 0) := by decide +kernel
theorem vr_168_65 : zrx 168 65 = some (.iaload, 0, 0) := by decide +kernel
theorem vr_168_66 : zrx 168 66 = some (.goto 22, 0, 0) := by decide +kernel
theorem vr_168_69 : zrx 168 69 = some (.iload 7, 0, 0) := by decide +kernel
theorem vr_168_71 : zrx 168 71 = some (.ifCond .ge 16, 0, 0) := by decide +kernel
theorem vr_168_74 : zrx 168 74 = some (.aload_n 0, 0, 0) := by decide +kernel
theorem vr_168_75 : zrx 168 75 = some (.getfield 40, 18, 11) := by decide +kernel
theorem vr_168_78 : zrx 168 78 = some (.iload_n 2, 0, 0) := by decide +kernel
theorem vr_168_79 : zrx 168 79 = some (.aaload, 0, 0) := by decide +kernel
theorem vr_168_80 : zrx 168 80 = some (.iload 5, 0, 0) := by decide +kernel
theorem vr_168_82 : zrx 168 82 = some (.iaload, 0, 0) := by decide +kernel
theorem vr_168_83 : zrx 168 83 = some (.ineg, 0, 0) := by decide +kernel
theorem vr_168_84 : zrx 168 84 = some (.goto 4, 0, 0) := by decide +kernel
theorem vr_168_87 : zrx 168 87 = some (.iconst 0, 0, 0) := by decide +kernel
theorem vr_168_88 : zrx 168 88 = some (.iadd, 0, 0) := by decide +kernel
theorem vr_168_89 : zrx 168 89 = some (.istore 4, 0, 0) := by decide +kernel
theorem vr_168_91 : zrx 168 91 = some (.iinc 5 1, 0, 0) := by decide +kernel
theorem vr_168_94 : zrx 168 94 = some (.goto (-88), 0, 0) := by decide +kernel
theorem vr_168_97 : zrx 168 97 = some (.iload 4, 0, 0) := by decide +kernel
theorem vr_168_99 : zrx 168 99 = some (.ireturn, 0, 0) := by decide +kernel
theorem vr_169_0 : zrx 169 0 = some (.iconst 0, 0, 0) := by decide +kernel
theorem vr_169_1 : zrx 169 1 = some (.istore_n 3, 0, 0) := by decide +kernel
theorem vr_169_2 : zrx 169 2 = some (.iconst 0, 0, 0) := by decide +kernel
theorem vr_169_3 : zrx 169 3 = some (.istore 4, 0, 0) := by decide +kernel
theorem vr_169_5 : zrx 169 5 = some (.iload 4, 0, 0) := by decide +kernel
theorem vr_169_7 : zrx 169 7 = some (.iconst 3, 0, 0) := by decide +kernel
theorem vr_169_8 : zrx 169 8 = some (.if_icmp .ge 28, 0, 0) := by decide +kernel
theorem vr_169_11 : zrx 169 11 = some (.iload_n 3, 0, 0) := by decide +kernel
theorem vr_169_12 : zrx 169 12 = some (.aload_n 0, 0, 0) := by decide +kernel
theorem vr_169_13 : zrx 169 13 = some (.iload_n 1, 0, 0) := by decide +kernel
theorem vr_169_14 : zrx 169 14 = some (.iload 4, 0, 0) := by decide +kernel
theorem vr_169_16 : zrx 169 16 = some (.iload_n 2, 0, 0) := by decide +kernel
theorem vr_169_17 : zrx 169 17 = some (.invokevirtual 269, 168, 190) := by decide +kernel
theorem vr_169_20 : zrx 169 20 = some (.ifCond .le 7, 0, 0) := by decide +kernel
theorem vr_169_23 : zrx 169 23 = some (.iconst 1, 0, 0) := by decide +kernel
theorem vr_169_24 : zrx 169 24 = some (.goto 4, 0, 0) := by decide +kernel
theorem vr_169_27 : zrx 169 27 = some (.iconst 0, 0, 0) := by decide +kernel
theorem vr_169_28 : zrx 169 28 = some (.iadd, 0, 0) := by decide +kernel
theorem vr_169_29 : zrx 169 29 = some (.istore_n 3, 0, 0) := by decide +kernel
theorem vr_169_30 : zrx 169 30 = some (.iinc 4 1, 0, 0) := by decide +kernel
theorem vr_169_33 : zrx 169 33 = some (.goto (-28), 0, 0) := by decide +kernel
theorem vr_169_36 : zrx 169 36 = some (.iload_n 3, 0, 0) := by decide +kernel
theorem vr_169_37 : zrx 169 37 = some (.ireturn, 0, 0) := by decide +kernel
theorem vr_176_0 : zrx 176 0 = some (.aload_n 0, 0, 0) := by decide +kernel
theorem vr_176_1 : zrx 176 1 = some (.iconst 0, 0, 0) := by decide +kernel
theorem vr_176_2 : zrx 176 2 = some (.putfield 55, 18, 0) := by decide +kernel
theorem vr_176_5 : zrx 176 5 = some (.iload_n 1, 0, 0) := by decide +kernel
theorem vr_176_6 : zrx 176 6 = some (.iconst 1, 0, 0) := by decide +kernel
theorem vr_176_7 : zrx 176 7 = some (.sipush 400, 0, 0) := by decide +kernel
theorem vr_176_10 : zrx 176 10 = some (.invokestatic 209, 132, 0) := by decide +kernel
theorem vr_176_13 : zrx 176 13 = some (.ifCond .ne 9, 0, 0) := by decide +kernel
theorem vr_176_16 : zrx 176 16 = some (.aload_n 0, 0, 0) := by decide +kernel
theorem vr_176_17 : zrx 176 17 = some (.iconst 1, 0, 0) := by decide +kernel
theorem vr_176_18 : zrx 176 18 = some (.invokevirtual 212, 131, 190) := by decide +kernel
theorem vr_176_21 : zrx 176 21 = some (.ireturn, 0, 0) := by decide +kernel
theorem vr_176_22 : zrx 176 22 = some (.aload_n 0, 0, 0) := by decide +kernel
theorem vr_176_23 : zrx 176 23 = some (.getfield 215, 18, 1) := by decide +kernel
theorem vr_176_26 : zrx 176 26 = some (.iload_n 1, 0, 0) := by decide +kernel
theorem vr_176_27 : zrx 176 27 = some (.iadd, 0, 0) := by decide +kernel
theorem vr_176_28 : zrx 176 28 = some (.sipush 3000, 0, 0) := by decide +kernel
theorem vr_176_31 : zrx 176 31 = some (.if_icmp .le 9, 0, 0) := by decide +kernel
theorem vr_176_34 : zrx 176 34 = some (.aload_n 0, 0, 0) := by decide +kernel
theorem vr_176_35 : zrx 176 35 = some (.iconst 2, 0, 0) := by decide +kernel
theorem vr_176_36 : zrx 176 36 = some (.invokevirtual 212, 131, 190) := by decide +kernel
theorem vr_176_39 : zrx 176 39 = some (.ireturn, 0, 0) := by decide +kernel
theorem vr_176_40 : zrx 176 40 = some (.aload_n 0, 0, 0) := by decide +kernel
theorem vr_176_41 : zrx 176 41 = some (.dup, 0, 0) := by decide +kernel
theorem vr_176_42 : zrx 176 42 = some (.getfield 215, 18, 1) := by decide +kernel
theorem vr_176_45 : zrx 176 45 = some (.iload_n 1, 0, 0) := by decide +kernel
theorem vr_176_46 : zrx 176 46 = some (.iadd, 0, 0) := by decide +kernel
theorem vr_176_47 : zrx 176 47 = some (.putfield 215, 18, 1) := by decide +kernel
theorem vr_176_50 : zrx 176 50 = some (.aload_n 0, 0, 0) := by decide +kernel
theorem vr_176_51 : zrx 176 51 = some (.getfield 215, 18, 1) := by decide +kernel
theorem vr_176_54 : zrx 176 54 = some (.ireturn, 0, 0) := by decide +kernel
theorem vr_217_0 : zrx 217 0 = some (.aload 4, 0, 0) := by decide +kernel
theorem vr_217_2 : zrx 217 2 = some (.aload_n 0, 0, 0) := by decide +kernel
theorem vr_217_3 : zrx 217 3 = some (.iload_n 1, 0, 0) := by decide +kernel
theorem vr_217_4 : zrx 217 4 = some (.iload_n 2, 0, 0) := by decide +kernel
theorem vr_217_5 : zrx 217 5 = some (.iload_n 3, 0, 0) := by decide +kernel
theorem vr_217_6 : zrx 217 6 = some (.invokevirtual 54, 66, 140) := by decide +kernel
theorem vr_217_9 : zrx 217 9 = some (.i2l, 0, 0) := by decide +kernel
theorem vr_217_10 : zrx 217 10 = some (.putfield 13, 14, 1000) := by decide +kernel
theorem vr_217_13 : zrx 217 13 = some (.goto 11, 0, 0) := by decide +kernel
theorem vr_217_16 : zrx 217 16 = some (.astore 5, 0, 0) := by decide +kernel
theorem vr_217_18 : zrx 217 18 = some (.iconst 1, 0, 0) := by decide +kernel
theorem vr_217_19 : zrx 217 19 = some (.ireturn, 0, 0) := by decide +kernel
theorem vr_217_20 : zrx 217 20 = some (.astore 5, 0, 0) := by decide +kernel
theorem vr_217_22 : zrx 217 22 = some (.iconst 2, 0, 0) := by decide +kernel
theorem vr_217_23 : zrx 217 23 = some (.ireturn, 0, 0) := by decide +kernel
theorem vr_217_24 : zrx 217 24 = some (.iconst 0, 0, 0) := by decide +kernel
theorem vr_217_25 : zrx 217 25 = some (.ireturn, 0, 0) := by decide +kernel
theorem vr_218_0 : zrx 218 0 = some (.aload 4, 0, 0) := by decide +kernel
theorem vr_218_2 : zrx 218 2 = some (.aload_n 0, 0, 0) := by decide +kernel
theorem vr_218_3 : zrx 218 3 = some (.iload_n 1, 0, 0) := by decide +kernel
theorem vr_218_4 : zrx 218 4 = some (.iload_n 2, 0, 0) := by decide +kernel
theorem vr_218_5 : zrx 218 5 = some (.iload_n 3, 0, 0) := by decide +kernel
theorem vr_218_6 : zrx 218 6 = some (.invokevirtual 57, 67, 140) := by decide +kernel
theorem vr_218_9 : zrx 218 9 = some (.i2l, 0, 0) := by decide +kernel
theorem vr_218_10 : zrx 218 10 = some (.putfield 13, 14, 1000) := by decide +kernel
theorem vr_218_13 : zrx 218 13 = some (.goto 11, 0, 0) := by decide +kernel
theorem vr_218_16 : zrx 218 16 = some (.astore 5, 0, 0) := by decide +kernel
theorem vr_218_18 : zrx 218 18 = some (.iconst 1, 0, 0) := by decide +kernel
theorem vr_218_19 : zrx 218 19 = some (.ireturn, 0, 0) := by decide +kernel
theorem vr_218_20 : zrx 218 20 = some (.astore 5, 0, 0) := by decide +kernel
theorem vr_218_22 : zrx 218 22 = some (.iconst 2, 0, 0) := by decide +kernel
theorem vr_218_23 : zrx 218 23 = some (.ireturn, 0, 0) := by decide +kernel
theorem vr_218_24 : zrx 218 24 = some (.iconst 0, 0, 0) := by decide +kernel
theorem vr_218_25 : zrx 218 25 = some (.ireturn, 0, 0) := by decide +kernel
theorem vr_219_0 : zrx 219 0 = some (.aload_n 3, 0, 0) := by decide +kernel
theorem vr_219_1 : zrx 219 1 = some (.aload_n 0, 0, 0) := by decide +kernel
theorem vr_219_2 : zrx 219 2 = some (.iload_n 1, 0, 0) := by decide +kernel
theorem vr_219_3 : zrx 219 3 = some (.iload_n 2, 0, 0) := by decide +kernel
theorem vr_219_4 : zrx 219 4 = some (.invokevirtual 60, 68, 140) := by decide +kernel
theorem vr_219_7 : zrx 219 7 = some (.i2l, 0, 0) := by decide +kernel
theorem vr_219_8 : zrx 219 8 = some (.putfield 13, 14, 1000) := by decide +kernel
theorem vr_219_11 : zrx 219 11 = some (.goto 11, 0, 0) := by decide +kernel
theorem vr_219_14 : zrx 219 14 = some (.astore 4, 0, 0) := by decide +kernel
theorem vr_219_16 : zrx 219 16 = some (.iconst 1, 0, 0) := by decide +kernel
theorem vr_219_17 : zrx 219 17 = some (.ireturn, 0, 0) := by decide +kernel
theorem vr_219_18 : zrx 219 18 = some (.astore 4, 0, 0) := by decide +kernel
theorem vr_219_20 : zrx 219 20 = some (.iconst 2, 0, 0) := by decide +kernel
theorem vr_219_21 : zrx 219 21 = some (.ireturn, 0, 0) := by decide +kernel
theorem vr_219_22 : zrx 219 22 = some (.iconst 0, 0, 0) := by decide +kernel
theorem vr_219_23 : zrx 219 23 = some (.ireturn, 0, 0) := by decide +kernel
theorem vr_226_0 : zrx 226 0 = some (.aload_n 2, 0, 0) := by decide +kernel
theorem vr_226_1 : zrx 226 1 = some (.aload_n 0, 0, 0) := by decide +kernel
theorem vr_226_2 : zrx 226 2 = some (.iload_n 1, 0, 0) := by decide +kernel
theorem vr_226_3 : zrx 226 3 = some (.invokevirtual 81, 75, 140) := by decide +kernel
theorem vr_226_6 : zrx 226 6 = some (.i2l, 0, 0) := by decide +kernel
theorem vr_226_7 : zrx 226 7 = some (.putfield 13, 14, 1000) := by decide +kernel
theorem vr_226_10 : zrx 226 10 = some (.goto 9, 0, 0) := by decide +kernel
theorem vr_226_13 : zrx 226 13 = some (.astore_n 3, 0, 0) := by decide +kernel
theorem vr_226_14 : zrx 226 14 = some (.iconst 1, 0, 0) := by decide +kernel
theorem vr_226_15 : zrx 226 15 = some (.ireturn, 0, 0) := by decide +kernel
theorem vr_226_16 : zrx 226 16 = some (.astore_n 3, 0, 0) := by decide +kernel
theorem vr_226_17 : zrx 226 17 = some (.iconst 2, 0, 0) := by decide +kernel
theorem vr_226_18 : zrx 226 18 = some (.ireturn, 0, 0) := by decide +kernel
theorem vr_226_19 : zrx 226 19 = some (.iconst 0, 0, 0) := by decide +kernel
theorem vr_226_20 : zrx 226 20 = some (.ireturn, 0, 0) := by decide +kernel
theorem vr_259_0 : zrx 259 0 = some (.iload_n 0, 0, 0) := by decide +kernel
theorem vr_259_1 : zrx 259 1 = some (.iload_n 1, 0, 0) := by decide +kernel
theorem vr_259_2 : zrx 259 2 = some (.if_icmp .ge 7, 0, 0) := by decide +kernel
theorem vr_259_5 : zrx 259 5 = some (.iconst (-1), 0, 0) := by decide +kernel
theorem vr_259_6 : zrx 259 6 = some (.goto 13, 0, 0) := by decide +kernel
theorem vr_259_9 : zrx 259 9 = some (.iload_n 0, 0, 0) := by decide +kernel
theorem vr_259_10 : zrx 259 10 = some (.iload_n 1, 0, 0) := by decide +kernel
theorem vr_259_11 : zrx 259 11 = some (.if_icmp .ne 7, 0, 0) := by decide +kernel
theorem vr_259_14 : zrx 259 14 = some (.iconst 0, 0, 0) := by decide +kernel
theorem vr_259_15 : zrx 259 15 = some (.goto 4, 0, 0) := by decide +kernel
theorem vr_259_18 : zrx 259 18 = some (.iconst 1, 0, 0) := by decide +kernel
theorem vr_259_19 : zrx 259 19 = some (.ireturn, 0, 0) := by decide +kernel
theorem vh_66_2_0 : zHit (zi 66) 2 0 = none := by decide +kernel
theorem vh_66_7_0 : zHit (zi 66) 7 0 = none := by decide +kernel
theorem vh_66_14_1 : zHit (zi 66) 14 1 = none := by decide +kernel
theorem vh_67_2_0 : zHit (zi 67) 2 0 = none := by decide +kernel
theorem vh_67_7_0 : zHit (zi 67) 7 0 = none := by decide +kernel
theorem vh_67_14_1 : zHit (zi 67) 14 1 = none := by decide +kernel
theorem vh_68_2_0 : zHit (zi 68) 2 0 = none := by decide +kernel
theorem vh_68_9_1 : zHit (zi 68) 9 1 = none := by decide +kernel
theorem vh_75_5_1 : zHit (zi 75) 5 1 = none := by decide +kernel
theorem vh_75_25_2 : zHit (zi 75) 25 2 = none := by decide +kernel
theorem vh_217_6_0 : (zHit (zi 217) 6 0).map (fun r => r.2.2.1) = some 16 := by decide +kernel
theorem vh_217_6_1 : (zHit (zi 217) 6 1).map (fun r => r.2.2.1) = some 20 := by decide +kernel
theorem vh_218_6_0 : (zHit (zi 218) 6 0).map (fun r => r.2.2.1) = some 16 := by decide +kernel
theorem vh_218_6_1 : (zHit (zi 218) 6 1).map (fun r => r.2.2.1) = some 20 := by decide +kernel
theorem vh_219_4_0 : (zHit (zi 219) 4 0).map (fun r => r.2.2.1) = some 14 := by decide +kernel
theorem vh_219_4_1 : (zHit (zi 219) 4 1).map (fun r => r.2.2.1) = some 18 := by decide +kernel
theorem vh_226_3_1 : (zHit (zi 226) 3 1).map (fun r => r.2.2.1) = some 13 := by decide +kernel
theorem vh_226_3_2 : (zHit (zi 226) 3 2).map (fun r => r.2.2.1) = some 16 := by decide +kernel
theorem C_pass (n : Nat) (x : Int32) (h : List zC) (u : Nat) {day : Int32} (hd : gF h 16 0 = some (.int day)) : zL zrx zi n 75 0 [(0, .ref 16), (1, .int x)] [] h u (fun o h2 _ => match o with
  | .inl v => (rI 1 400 x ∧ day + x ≤ 3000) ∧ v = some (.int (day + x)) ∧ hPut h h2 16 0 (.int (day + x))
  | .inr E => hExt h h2 ∧ ((E = 1 ∧ ¬ rI 1 400 x) ∨ (E = 2 ∧ rI 1 400 x ∧ ¬ day + x ≤ 3000))) := by
  refine zSiload (m := 1) (k := 1) vr_75_0 rfl rfl rfl (fun x2466 e2466 => ?_)
  cases e2466
  refine zSp0 (pc' := 2) (st' := .int (1) :: _) vr_75_1 rfl rfl ?_
  refine zSp0 (pc' := 5) (st' := .int (400) :: _) vr_75_2 rfl rfl ?_
  refine zScall vr_75_5 rfl rfl rfl (fun m2469 _ => C_val _ _ _ _ _ _) (fun v2469 h2469 u2469 q2469 => ?_) (fun E2469 h2469 u2469 q2469 => ?_)
  · obtain ⟨eh2469, rfl, r1⟩ := q2469
    replace eh2469 := eh2469.symm
    subst eh2469
    show zL zrx zi _ 75 8 [(0, _), (1, _)] [] _ _ _
    refine zSaload (m := 1) (k := 0) vr_75_8 rfl rfl rfl ?_
    refine zLget vr_75_9 rfl (fun p2471 w2471 e2471 t2471 g2471 => ?_)
    cases e2471
    first | (rw [hd] at g2471; cases g2471) | skip
    refine zSiload (m := 1) (k := 1) vr_75_12 rfl rfl rfl (fun x2472 e2472 => ?_)
    cases e2472
    refine zS2 (f := fun x y => .int (x + y)) vr_75_13 rfl rfl (fun x2473 y2473 e2473 f2473 => ?_)
    cases e2473
    cases f2473
    refine zSp0 (pc' := 17) (st' := .int (3000) :: _) vr_75_14 rfl rfl ?_
    refine zSb2 (f := fun x y => decide (y < x)) (off := 7) (t := 24) vr_75_17 rfl rfl rfl (fun x2475 y2475 e2475 f2475 q2475 => ?_) (fun x2475 y2475 e2475 f2475 q2475 => ?_)
    · cases e2475
      cases f2475
      have c2475 := of_decide_eq_true q2475
      refine zSp0 (pc' := 25) (st' := .int (0) :: _) vr_75_24 rfl rfl ?_
      refine zScall vr_75_25 rfl rfl rfl (fun m _ => C_needState _ _ _ _) (fun v h u q => absurd rfl q.2.2) (fun E h3 u q => ?_)
      obtain ⟨rfl, -, q2⟩ := q
      rw [zCat_no vh_75_25_2]
      exact ⟨q2, Or.inr ⟨rfl, r1, fun z => absurd c2475 (Int32.not_lt.mpr z)⟩⟩
    · cases e2475
      cases f2475
      have c2475 := ndc q2475
      refine zSp0 (pc' := 21) (st' := .int (1) :: _) vr_75_20 rfl rfl ?_
      refine zSgo (t := 25) vr_75_21 rfl rfl ?_
      refine zScall vr_75_25 rfl rfl rfl (fun m2478 _ => C_needState _ _ _ _) (fun v2478 h2478 u2478 q2478 => ?_) (fun E2478 h2478 u2478 q2478 => ?_)
      · obtain ⟨eh2478, rfl, -⟩ := q2478
        replace eh2478 := eh2478.symm
        subst eh2478
        show zL zrx zi _ 75 28 [(0, _), (1, _)] [] _ _ _
        have c17 := Int32.not_lt.mp c2475
        refine zSaload (m := 1) (k := 0) vr_75_28 rfl rfl rfl ?_
        refine zSdup vr_75_29 rfl ?_
        refine zLget vr_75_30 rfl (fun p2481 w2481 e2481 t2481 g2481 => ?_)
        cases e2481
        first | (rw [hd] at g2481; cases g2481) | skip
        refine zSiload (m := 1) (k := 1) vr_75_33 rfl rfl rfl (fun x2482 e2482 => ?_)
        cases e2482
        refine zS2 (f := fun x y => .int (x + y)) vr_75_34 rfl rfl (fun x2483 y2483 e2483 f2483 => ?_)
        cases e2483
        cases f2483
        refine zLput vr_75_35 rfl (fun p2484 k2484 e2484 t2484 g2484 => ?_)
        cases e2484
        have hd2 : gF k2484 16 0 = some (.int (day + x)) := by
          rw [g2484.2.1, if_pos ⟨rfl, rfl⟩]
        refine zSaload (m := 1) (k := 0) vr_75_38 rfl rfl rfl ?_
        refine zLget vr_75_39 rfl (fun p2486 w2486 e2486 t2486 g2486 => ?_)
        cases e2486
        first | (rw [hd2] at g2486; cases g2486) | skip
        refine zLiret vr_75_42 rfl (fun x2487 e2487 => ?_)
        cases e2487
        exact ⟨⟨r1, c17⟩, rfl, g2484⟩
      · obtain ⟨-, z, -⟩ := q2478
        exact absurd z (by decide)
  · obtain ⟨rfl, q1, q2⟩ := q2469
    rw [zCat_no vh_75_5_1]
    exact ⟨q2, Or.inl ⟨rfl, q1⟩⟩
abbrev Q_Lpass (day : Int32) (x : Int32) (h : List zC) : zK := fun o h2 _ => ∃ k : Int32, o = .inl (some (.int k)) ∧
  ((k = 0 ∧ (rI 1 400 x ∧ day + x ≤ 3000) ∧ ∃ h1, hPut h h1 16 0 (.int (day + x)) ∧ hPut h1 h2 238 0 (.long (day + x).toInt64)) ∨ (k = 1 ∧ ¬ rI 1 400 x ∧ hExt h h2) ∨ (k = 2 ∧ rI 1 400 x ∧ ¬ day + x ≤ 3000 ∧ hExt h h2))
theorem C_Lpass (n : Nat) (x : Int32) (h : List zC) (u : Nat) {day : Int32} (hd : gF h 16 0 = some (.int day)) : zL zrx zi n 226 0 [(0, .ref 16), (1, .int x), (2, .ref 238)] [] h u (Q_Lpass day x h) := by
  refine zSaload (m := 1) (k := 2) vr_226_0 rfl rfl rfl ?_
  refine zSaload (m := 1) (k := 0) vr_226_1 rfl rfl rfl ?_
  refine zSiload (m := 1) (k := 1) vr_226_2 rfl rfl rfl (fun x2490 e2490 => ?_)
  cases e2490
  refine zScall vr_226_3 rfl rfl rfl (fun m2491 _ => C_pass _ _ _ _ hd) (fun v2491 h2491 u2491 q2491 => ?_) (fun E2491 h2491 u2491 q2491 => ?_)
  · obtain ⟨k1, rfl, k2⟩ := q2491
    show zL zrx zi _ 226 6 [(0, _), (1, _), (2, _)] [_, _] _ _ _
    refine zS1 (f := fun x => .long x.toInt64) vr_226_6 rfl rfl (fun x2492 e2492 => ?_)
    cases e2492
    refine zLput vr_226_7 rfl (fun p2493 k2493 e2493 t2493 g2493 => ?_)
    cases e2493
    have gP := g2493
    refine zSgo (t := 19) vr_226_10 rfl rfl ?_
    refine zSp0 (pc' := 20) (st' := .int (0) :: _) vr_226_19 rfl rfl ?_
    refine zLiret vr_226_20 rfl (fun x2496 e2496 => ?_)
    cases e2496
    exact ⟨_, rfl, Or.inl ⟨rfl, k1, _, k2, gP⟩⟩
  · obtain ⟨q1, ⟨rfl, z⟩ | ⟨rfl, z⟩⟩ := q2491
    · rw [zCat_hit (k := 3) (m := 1) vh_226_3_1 vr_226_13 rfl (by decide)]
      show zL zrx zi _ 226 14 [(0, _), (1, _), (2, _)] [] _ _ _
      refine zSp0 (pc' := 15) (st' := .int (1) :: _) vr_226_14 rfl rfl ?_
      refine zLiret vr_226_15 rfl (fun x2498 e2498 => ?_)
      cases e2498
      exact ⟨_, rfl, Or.inr (Or.inl ⟨rfl, z, q1⟩)⟩
    · rw [zCat_hit (k := 3) (m := 1) vh_226_3_2 vr_226_16 rfl (by decide)]
      show zL zrx zi _ 226 17 [(0, _), (1, _), (2, _)] [] _ _ _
      refine zSp0 (pc' := 18) (st' := .int (2) :: _) vr_226_17 rfl rfl ?_
      refine zLiret vr_226_18 rfl (fun x2500 e2500 => ?_)
      cases e2500
      exact ⟨_, rfl, Or.inr (Or.inr ⟨rfl, z.1, z.2, q1⟩)⟩
abbrev Q_mpass (day : Int32) (x : Int32) (h : List zC) : zK := fun o h2 _ => ∃ (r : Int32) (h0 : List zC), o = .inl (some (.int r)) ∧ hPut h h0 213 0 (.int 0) ∧ (((rI 1 400 x ∧ day + x ≤ 3000) ∧ r = day + x ∧ hPut h0 h2 213 1 (.int (day + x))) ∨ (¬ rI 1 400 x ∧ hPut h0 h2 213 0 (.int 1)) ∨ (rI 1 400 x ∧ ¬ day + x ≤ 3000 ∧ hPut h0 h2 213 0 (.int 2)))
theorem C_mpass (n : Nat) (x : Int32) (h : List zC) (u : Nat) {day : Int32} (hd : gF h 213 1 = some (.int day)) : zL zrx zi n 176 0 [(0, .ref 213), (1, .int x)] [] h u (Q_mpass day x h) := by
  refine zSaload (m := 1) (k := 0) vr_176_0 rfl rfl rfl ?_
  refine zSp0 (pc' := 2) (st' := .int (0) :: _) vr_176_1 rfl rfl ?_
  refine zLput vr_176_2 rfl (fun p2503 k2503 e2503 t2503 g2503 => ?_)
  cases e2503
  have t0 := g2503
  have hd0 : gF k2503 213 1 = some (.int day) := by rw [t0.2.1, if_neg (by omega)]; exact hd
  refine zSiload (m := 1) (k := 1) vr_176_5 rfl rfl rfl (fun x2504 e2504 => ?_)
  cases e2504
  refine zSp0 (pc' := 7) (st' := .int (1) :: _) vr_176_6 rfl rfl ?_
  refine zSp0 (pc' := 10) (st' := .int (400) :: _) vr_176_7 rfl rfl ?_
  refine zScall vr_176_10 rfl rfl rfl (fun m2507 _ => C_in _ _ _ _ _ _) (fun v2507 h2507 u2507 q2507 => ?_) (fun E2507 h2507 u2507 q2507 => ?_)
  · obtain ⟨eh2507, z2507⟩ := q2507
    replace eh2507 := eh2507.symm
    subst eh2507
    cases z2507
    show zL zrx zi _ 176 13 [(0, _), (1, _)] [_] _ _ _
    refine zSb1 (f := fun x => decide (¬ x = 0)) (off := 9) (t := 22) vr_176_13 rfl rfl rfl (fun x2508 e2508 q2508 => ?_) (fun x2508 e2508 q2508 => ?_)
    · cases e2508
      have c2508 := of_decide_eq_true q2508
      refine zSaload (m := 1) (k := 0) vr_176_22 rfl rfl rfl ?_
      refine zLget vr_176_23 rfl (fun p2510 w2510 e2510 t2510 g2510 => ?_)
      cases e2510
      first | (rw [hd0] at g2510; cases g2510) | skip
      refine zSiload (m := 1) (k := 1) vr_176_26 rfl rfl rfl (fun x2511 e2511 => ?_)
      cases e2511
      refine zS2 (f := fun x y => .int (x + y)) vr_176_27 rfl rfl (fun x2512 y2512 e2512 f2512 => ?_)
      cases e2512
      cases f2512
      refine zSp0 (pc' := 31) (st' := .int (3000) :: _) vr_176_28 rfl rfl ?_
      refine zSb2 (f := fun x y => decide (x ≤ y)) (off := 9) (t := 40) vr_176_31 rfl rfl rfl (fun x2514 y2514 e2514 f2514 q2514 => ?_) (fun x2514 y2514 e2514 f2514 q2514 => ?_)
      · cases e2514
        cases f2514
        have c2514 := of_decide_eq_true q2514
        refine zSaload (m := 1) (k := 0) vr_176_40 rfl rfl rfl ?_
        refine zSdup vr_176_41 rfl ?_
        refine zLget vr_176_42 rfl (fun p2517 w2517 e2517 t2517 g2517 => ?_)
        cases e2517
        first | (rw [hd0] at g2517; cases g2517) | skip
        refine zSiload (m := 1) (k := 1) vr_176_45 rfl rfl rfl (fun x2518 e2518 => ?_)
        cases e2518
        refine zS2 (f := fun x y => .int (x + y)) vr_176_46 rfl rfl (fun x2519 y2519 e2519 f2519 => ?_)
        cases e2519
        cases f2519
        refine zLput vr_176_47 rfl (fun p2520 k2520 e2520 t2520 g2520 => ?_)
        cases e2520
        have hd2 : gF k2520 213 1 = some (.int (day + x)) := by
          rw [g2520.2.1, if_pos ⟨rfl, rfl⟩]
        refine zSaload (m := 1) (k := 0) vr_176_50 rfl rfl rfl ?_
        refine zLget vr_176_51 rfl (fun p2522 w2522 e2522 t2522 g2522 => ?_)
        cases e2522
        first | (rw [hd2] at g2522; cases g2522) | skip
        refine zLiret vr_176_54 rfl (fun x2523 e2523 => ?_)
        cases e2523
        exact ⟨_, _, rfl, t0, Or.inl ⟨⟨inB_y c2508, c2514⟩, rfl, g2520⟩⟩
      · cases e2514
        cases f2514
        have c2514 := ndc q2514
        refine zSaload (m := 1) (k := 0) vr_176_34 rfl rfl rfl ?_
        refine zSp0 (pc' := 36) (st' := .int (2) :: _) vr_176_35 rfl rfl ?_
        refine zScall vr_176_36 rfl rfl rfl (fun m2526 _ => C_no _ _ _ _ _) (fun v2526 h2526 u2526 q2526 => ?_) (fun E2526 h2526 u2526 q2526 => ?_)
        · obtain ⟨gn2526, z2526⟩ := q2526
          cases z2526
          show zL zrx zi _ 176 39 [(0, _), (1, _)] [_] _ _ _
          refine zLiret vr_176_39 rfl (fun x2527 e2527 => ?_)
          cases e2527
          exact ⟨_, _, rfl, t0, Or.inr (Or.inr ⟨inB_y c2508, c2514, gn2526⟩)⟩
        · obtain ⟨-, z⟩ := q2526
          cases z
    · cases e2508
      have c2508 := ndc q2508
      refine zSaload (m := 1) (k := 0) vr_176_16 rfl rfl rfl ?_
      refine zSp0 (pc' := 18) (st' := .int (1) :: _) vr_176_17 rfl rfl ?_
      refine zScall vr_176_18 rfl rfl rfl (fun m2530 _ => C_no _ _ _ _ _) (fun v2530 h2530 u2530 q2530 => ?_) (fun E2530 h2530 u2530 q2530 => ?_)
      · obtain ⟨gn2530, z2530⟩ := q2530
        cases z2530
        show zL zrx zi _ 176 21 [(0, _), (1, _)] [_] _ _ _
        refine zLiret vr_176_21 rfl (fun x2531 e2531 => ?_)
        cases e2531
        exact ⟨_, _, rfl, t0, Or.inr (Or.inl ⟨inB_n (Decidable.not_not.mp c2508), gn2530⟩)⟩
      · obtain ⟨-, z⟩ := q2530
        cases z
  · obtain ⟨-, z⟩ := q2507
    cases z
theorem C_cmpI (n : Nat) (a b : Int32) (h : List zC) (u : Nat) : zL zrx zi n 259 0 [(0, .int a), (1, .int b)] [] h u (fun o h2 _ => h2 = h ∧ o = .inl (some (.int (cmpI a b)))) := by
  refine zSiload (m := 1) (k := 0) vr_259_0 rfl rfl rfl (fun x2532 e2532 => ?_)
  cases e2532
  refine zSiload (m := 1) (k := 1) vr_259_1 rfl rfl rfl (fun x2533 e2533 => ?_)
  cases e2533
  refine zSb2 (f := fun x y => decide (y ≤ x)) (off := 7) (t := 9) vr_259_2 rfl rfl rfl (fun x2534 y2534 e2534 f2534 q2534 => ?_) (fun x2534 y2534 e2534 f2534 q2534 => ?_)
  · cases e2534
    cases f2534
    have c2534 := of_decide_eq_true q2534
    refine zSiload (m := 1) (k := 0) vr_259_9 rfl rfl rfl (fun x2535 e2535 => ?_)
    cases e2535
    refine zSiload (m := 1) (k := 1) vr_259_10 rfl rfl rfl (fun x2536 e2536 => ?_)
    cases e2536
    refine zSb2 (f := fun x y => decide (¬ x = y)) (off := 7) (t := 18) vr_259_11 rfl rfl rfl (fun x2537 y2537 e2537 f2537 q2537 => ?_) (fun x2537 y2537 e2537 f2537 q2537 => ?_)
    · cases e2537
      cases f2537
      have c2537 := of_decide_eq_true q2537
      refine zSp0 (pc' := 19) (st' := .int (1) :: _) vr_259_18 rfl rfl ?_
      refine zLiret vr_259_19 rfl (fun x2539 e2539 => ?_)
      cases e2539
      refine ⟨rfl, ?_⟩
      unfold cmpI
      first
        | rw [if_pos (Int32.not_le.mp c2534)]
        | rw [if_neg (Int32.not_lt.mpr c2534), if_pos (Decidable.not_not.mp c2537)]
        | rw [if_neg (Int32.not_lt.mpr c2534), if_neg c2537]
    · cases e2537
      cases f2537
      have c2537 := ndc q2537
      refine zSp0 (pc' := 15) (st' := .int (0) :: _) vr_259_14 rfl rfl ?_
      refine zSgo (t := 19) vr_259_15 rfl rfl ?_
      refine zLiret vr_259_19 rfl (fun x2542 e2542 => ?_)
      cases e2542
      refine ⟨rfl, ?_⟩
      unfold cmpI
      first
        | rw [if_pos (Int32.not_le.mp c2534)]
        | rw [if_neg (Int32.not_lt.mpr c2534), if_pos (Decidable.not_not.mp c2537)]
        | rw [if_neg (Int32.not_lt.mpr c2534), if_neg c2537]
  · cases e2534
    cases f2534
    have c2534 := ndc q2534
    refine zSp0 (pc' := 6) (st' := .int (-1) :: _) vr_259_5 rfl rfl ?_
    refine zSgo (t := 19) vr_259_6 rfl rfl ?_
    refine zLiret vr_259_19 rfl (fun x2545 e2545 => ?_)
    cases e2545
    refine ⟨rfl, ?_⟩
    unfold cmpI
    first
      | rw [if_pos (Int32.not_le.mp c2534)]
      | rw [if_neg (Int32.not_lt.mpr c2534), if_pos (Decidable.not_not.mp c2537)]
      | rw [if_neg (Int32.not_lt.mpr c2534), if_neg c2537]
theorem C_likes (n : Nat) (C : Nat) (h : List zC) (u : Nat) {f : Nat} (hS : Stc h) (hf : f < 4) : zL zrx zi n 38 0 [(0, .ref (171 + 3 * f)), (1, .ref C)] [] h u (fun o h2 _ => h2 = h ∧ o = .inl (some (.int (lkC h f C)))) := by
  refine zSaload (m := 1) (k := 0) vr_38_0 rfl rfl rfl ?_
  refine zLget vr_38_1 rfl (fun p2547 w2547 e2547 t2547 g2547 => ?_)
  cases e2547
  first | (rw [(st_fm hS hf)] at g2547; cases g2547) | skip
  refine zSaload (m := 1) (k := 1) vr_38_4 rfl rfl rfl ?_
  refine zLget vr_38_5 rfl (fun p2549 w2549 e2549 t2549 g2549 => ?_)
  cases e2549
  first | (rw [(st_fm hS hf)] at g2549; cases g2549) | skip
  refine zLiald vr_38_8 rfl (fun p2550 x2550 w2550 e2550 f2550 c2550 t2550 g2550 => ?_)
  cases e2550
  cases f2550
  first | (rw [(st_fm hS hf)] at g2550; cases g2550) | skip
  refine zSistore (m := 1) (k := 2) vr_38_9 rfl rfl (fun x2551 e2551 => ?_)
  cases e2551
  show zL zrx zi _ 38 10 [(2, _), (0, _), (1, _)] [] _ _ _
  refine zSaload (m := 1) (k := 1) vr_38_10 rfl rfl rfl ?_
  refine zLget vr_38_11 rfl (fun p2553 w2553 e2553 t2553 g2553 => ?_)
  cases e2553
  first | (rw [(st_fm hS hf)] at g2553; cases g2553) | skip
  refine zSb1 (f := fun x => decide (0 ≤ x)) (off := 7) (t := 21) vr_38_14 rfl rfl rfl (fun x2554 e2554 q2554 => ?_) (fun x2554 e2554 q2554 => ?_)
  · cases e2554
    have c2554 := of_decide_eq_true q2554
    refine zSiload (m := 1) (k := 2) vr_38_21 rfl rfl rfl (fun x2555 e2555 => ?_)
    cases e2555
    refine zSaload (m := 1) (k := 0) vr_38_22 rfl rfl rfl ?_
    refine zLget vr_38_23 rfl (fun p2557 w2557 e2557 t2557 g2557 => ?_)
    cases e2557
    first | (rw [(st_fm hS hf)] at g2557; cases g2557) | skip
    refine zSaload (m := 1) (k := 1) vr_38_26 rfl rfl rfl ?_
    refine zLget vr_38_27 rfl (fun p2559 w2559 e2559 t2559 g2559 => ?_)
    cases e2559
    first | (rw [(st_fm hS hf)] at g2559; cases g2559) | skip
    refine zSp0 (pc' := 32) (st' := .int (50) :: _) vr_38_30 rfl rfl ?_
    refine zS2 (f := fun x y => .int (x - y)) vr_38_32 rfl rfl (fun x2561 y2561 e2561 f2561 => ?_)
    cases e2561
    cases f2561
    refine zS2 (f := fun x y => .int (x * y)) vr_38_33 rfl rfl (fun x2562 y2562 e2562 f2562 => ?_)
    cases e2562
    cases f2562
    refine zSp0 (pc' := 36) (st' := .int (25) :: _) vr_38_34 rfl rfl ?_
    refine zSdiv vr_38_36 rfl (fun x2564 y2564 e2564 f2564 g2564 => ?_)
    cases e2564
    cases f2564
    refine zS2 (f := fun x y => .int (x + y)) vr_38_37 rfl rfl (fun x2565 y2565 e2565 f2565 => ?_)
    cases e2565
    cases f2565
    refine zLiret vr_38_38 rfl (fun x2566 e2566 => ?_)
    cases e2566
    refine ⟨rfl, ?_⟩
    unfold lkC lk
    rw [iv_of g2549, iv_of g2550, iv_of g2553]
    have z0 := z0I
    first
      | rw [if_pos (Int32.not_le.mp c2554)]
      | (have e := (iv_of g2553).symm.trans (iv_of g2559)
         rw [iv_of g2557, if_neg (Int32.not_lt.mpr c2554), e])
  · cases e2554
    have c2554 := ndc q2554
    refine zSiload (m := 1) (k := 2) vr_38_17 rfl rfl rfl (fun x2567 e2567 => ?_)
    cases e2567
    refine zSgo (t := 38) vr_38_18 rfl rfl ?_
    refine zLiret vr_38_38 rfl (fun x2569 e2569 => ?_)
    cases e2569
    refine ⟨rfl, ?_⟩
    unfold lkC lk
    rw [iv_of g2549, iv_of g2550, iv_of g2553]
    have z0 := z0I
    first
      | rw [if_pos (Int32.not_le.mp c2554)]
      | (have e := (iv_of g2553).symm.trans (iv_of g2559)
         rw [iv_of g2557, if_neg (Int32.not_lt.mpr c2554), e])
theorem C_stance (n : Nat) (rep : Int32) (h : List zC) (u : Nat) {f : Nat} (hS : Stc h) (hf : f < 4) {A C : Nat} (hC : gF h A 1 = some (.ref C)) : zL zrx zi n 39 0 [(0, .ref (171 + 3 * f)), (1, .ref A), (2, .int rep)] [] h u (fun o h2 _ => h2 = h ∧ o = .inl (some (.int (sideC rep (iv h (171 + 3 * f) 3) (iv h A 0) (lkC h f C))))) := by
  refine zSiload (m := 1) (k := 2) vr_39_0 rfl rfl rfl (fun x2570 e2570 => ?_)
  cases e2570
  refine zSb1 (f := fun x => decide (¬ x = 0)) (off := 16) (t := 17) vr_39_1 rfl rfl rfl (fun x2571 e2571 q2571 => ?_) (fun x2571 e2571 q2571 => ?_)
  · cases e2571
    have c2571 := of_decide_eq_true q2571
    refine zSaload (m := 1) (k := 0) vr_39_17 rfl rfl rfl ?_
    refine zSaload (m := 1) (k := 1) vr_39_18 rfl rfl rfl ?_
    refine zLget vr_39_19 rfl (fun p2574 w2574 e2574 t2574 g2574 => ?_)
    cases e2574
    first | (rw [hC] at g2574; cases g2574) | skip
    refine zScall vr_39_22 rfl rfl rfl (fun m2575 _ => C_likes _ _ _ _ hS hf) (fun v2575 h2575 u2575 q2575 => ?_) (fun E2575 h2575 u2575 q2575 => ?_)
    · obtain ⟨eh2575, z2575⟩ := q2575
      replace eh2575 := eh2575.symm
      subst eh2575
      cases z2575
      show zL zrx zi _ 39 25 [(0, _), (1, _), (2, _)] [_] _ _ _
      refine zSp0 (pc' := 26) (st' := .int (0) :: _) vr_39_25 rfl rfl ?_
      refine zScall vr_39_26 rfl rfl rfl (fun m2577 _ => C_cmpI _ _ _ _ _) (fun v2577 h2577 u2577 q2577 => ?_) (fun E2577 h2577 u2577 q2577 => ?_)
      · obtain ⟨eh2577, z2577⟩ := q2577
        replace eh2577 := eh2577.symm
        subst eh2577
        cases z2577
        show zL zrx zi _ 39 29 [(0, _), (1, _), (2, _)] [_] _ _ _
        refine zSistore (m := 1) (k := 3) vr_39_29 rfl rfl (fun x2578 e2578 => ?_)
        cases e2578
        show zL zrx zi _ 39 30 [(3, _), (0, _), (1, _), (2, _)] [] _ _ _
        refine zSiload (m := 1) (k := 2) vr_39_30 rfl rfl rfl (fun x2579 e2579 => ?_)
        cases e2579
        refine zSb1 (f := fun x => decide (x = 0)) (off := 8) (t := 39) vr_39_31 rfl rfl rfl (fun x2580 e2580 q2580 => ?_) (fun x2580 e2580 q2580 => ?_)
        · cases e2580
          have c2580 := of_decide_eq_true q2580
          refine zSiload (m := 1) (k := 3) vr_39_39 rfl rfl rfl (fun x2581 e2581 => ?_)
          cases e2581
          refine zLiret vr_39_40 rfl (fun x2582 e2582 => ?_)
          cases e2582
          refine ⟨rfl, ?_⟩
          unfold sideC
          first
            | rw [if_neg c2580]
            | exact absurd c2580 c2571
            | rw [iv_of g2549, iv_of g2551, if_pos c2580, if_neg c2472]
        · cases e2580
          have c2580 := ndc q2580
          refine zSiload (m := 1) (k := 3) vr_39_34 rfl rfl rfl (fun x2583 e2583 => ?_)
          cases e2583
          refine zS1 (f := fun x => .int (-x)) vr_39_35 rfl rfl (fun x2584 e2584 => ?_)
          cases e2584
          refine zSgo (t := 40) vr_39_36 rfl rfl ?_
          refine zLiret vr_39_40 rfl (fun x2586 e2586 => ?_)
          cases e2586
          refine ⟨rfl, ?_⟩
          unfold sideC
          first
            | rw [if_neg c2580]
            | exact absurd c2580 c2571
            | rw [iv_of g2549, iv_of g2551, if_pos c2580, if_neg c2472]
      · obtain ⟨-, z⟩ := q2577
        cases z
    · obtain ⟨-, z⟩ := q2575
      cases z
  · cases e2571
    have c2571 := ndc q2571
    refine zSaload (m := 1) (k := 0) vr_39_4 rfl rfl rfl ?_
    refine zLget vr_39_5 rfl (fun p2588 w2588 e2588 t2588 g2588 => ?_)
    cases e2588
    first | (rw [hC] at g2588; cases g2588) | skip
    refine zSaload (m := 1) (k := 1) vr_39_8 rfl rfl rfl ?_
    refine zLget vr_39_9 rfl (fun p2590 w2590 e2590 t2590 g2590 => ?_)
    cases e2590
    first | (rw [hC] at g2590; cases g2590) | skip
    refine zSb2 (f := fun x y => decide (¬ x = y)) (off := 5) (t := 17) vr_39_12 rfl rfl rfl (fun x2591 y2591 e2591 f2591 q2591 => ?_) (fun x2591 y2591 e2591 f2591 q2591 => ?_)
    · cases e2591
      cases f2591
      have c2591 := of_decide_eq_true q2591
      refine zSaload (m := 1) (k := 0) vr_39_17 rfl rfl rfl ?_
      refine zSaload (m := 1) (k := 1) vr_39_18 rfl rfl rfl ?_
      refine zLget vr_39_19 rfl (fun p2594 w2594 e2594 t2594 g2594 => ?_)
      cases e2594
      first | (rw [hC] at g2594; cases g2594) | skip
      refine zScall vr_39_22 rfl rfl rfl (fun m2595 _ => C_likes _ _ _ _ hS hf) (fun v2595 h2595 u2595 q2595 => ?_) (fun E2595 h2595 u2595 q2595 => ?_)
      · obtain ⟨eh2595, z2595⟩ := q2595
        replace eh2595 := eh2595.symm
        subst eh2595
        cases z2595
        show zL zrx zi _ 39 25 [(0, _), (1, _), (2, _)] [_] _ _ _
        refine zSp0 (pc' := 26) (st' := .int (0) :: _) vr_39_25 rfl rfl ?_
        refine zScall vr_39_26 rfl rfl rfl (fun m2597 _ => C_cmpI _ _ _ _ _) (fun v2597 h2597 u2597 q2597 => ?_) (fun E2597 h2597 u2597 q2597 => ?_)
        · obtain ⟨eh2597, z2597⟩ := q2597
          replace eh2597 := eh2597.symm
          subst eh2597
          cases z2597
          show zL zrx zi _ 39 29 [(0, _), (1, _), (2, _)] [_] _ _ _
          refine zSistore (m := 1) (k := 3) vr_39_29 rfl rfl (fun x2598 e2598 => ?_)
          cases e2598
          show zL zrx zi _ 39 30 [(3, _), (0, _), (1, _), (2, _)] [] _ _ _
          refine zSiload (m := 1) (k := 2) vr_39_30 rfl rfl rfl (fun x2599 e2599 => ?_)
          cases e2599
          refine zSb1 (f := fun x => decide (x = 0)) (off := 8) (t := 39) vr_39_31 rfl rfl rfl (fun x2600 e2600 q2600 => ?_) (fun x2600 e2600 q2600 => ?_)
          · cases e2600
            have c2600 := of_decide_eq_true q2600
            refine zSiload (m := 1) (k := 3) vr_39_39 rfl rfl rfl (fun x2601 e2601 => ?_)
            cases e2601
            refine zLiret vr_39_40 rfl (fun x2602 e2602 => ?_)
            cases e2602
            refine ⟨rfl, ?_⟩
            unfold sideC
            first
              | rw [if_neg c2600]
              | exact absurd c2600 c2571
              | rw [iv_of g2588, iv_of g2590, if_pos c2600, if_neg c2591]
          · cases e2600
            have c2600 := ndc q2600
            refine zSiload (m := 1) (k := 3) vr_39_34 rfl rfl rfl (fun x2603 e2603 => ?_)
            cases e2603
            refine zS1 (f := fun x => .int (-x)) vr_39_35 rfl rfl (fun x2604 e2604 => ?_)
            cases e2604
            refine zSgo (t := 40) vr_39_36 rfl rfl ?_
            refine zLiret vr_39_40 rfl (fun x2606 e2606 => ?_)
            cases e2606
            refine ⟨rfl, ?_⟩
            unfold sideC
            first
              | rw [if_neg c2600]
              | exact absurd c2600 c2571
              | rw [iv_of g2588, iv_of g2590, if_pos c2600, if_neg c2591]
        · obtain ⟨-, z⟩ := q2597
          cases z
      · obtain ⟨-, z⟩ := q2595
        cases z
    · cases e2591
      cases f2591
      have c2591 := ndc q2591
      refine zSp0 (pc' := 16) (st' := .int (1) :: _) vr_39_15 rfl rfl ?_
      refine zLiret vr_39_16 rfl (fun x2608 e2608 => ?_)
      cases e2608
      refine ⟨rfl, ?_⟩
      unfold sideC
      rw [iv_of g2588, iv_of g2590, if_pos (Decidable.not_not.mp c2571), if_pos (Decidable.not_not.mp c2591)]
set_option maxRecDepth 20000 in
theorem C_bal_loop {h : List zC} {A C i : Nat} {hv rep : Int32} (hS : Stc h) (hC : gF h A 1 = some (.ref C)) (hi : hv.toNatClampNeg = i) : ∀ (n k : Nat) (r : Int32) (u : Nat), k ≤ 4 → bCs (fun f => iv h (173 + 3 * f) i) (fun f => sideC rep (iv h (171 + 3 * f) 3) (iv h A 0) (lkC h f C)) k = r → zL zrx zi n 51 6 [(5, .int (Int32.ofNat k)), (4, .int r), (0, .ref 169), (1, .int hv), (2, .ref A), (3, .int rep)] [] h u (fun o h2 _ => h2 = h ∧ o = .inl (some (.int (bCs (fun f => iv h (173 + 3 * f) i) (fun f => sideC rep (iv h (171 + 3 * f) 3) (iv h A 0) (lkC h f C)) 4))))
  | 0, _, _, _ => fun _ _ => trivial
  | n + 1, k, r, u => fun hk hD => by
    have kk := (toNat_ofNat (m := k) (by omega))
    have z4 : (4 : Int32).toInt = 4 := rfl
    refine zLp vr_51_6 rfl rfl ?_
    refine zSp0 (pc' := 9) (st' := .int (4) :: _) vr_51_8 rfl rfl ?_
    refine zSb2 (f := fun x y => decide (y ≤ x)) (off := 39) (t := 48) vr_51_9 rfl rfl rfl (fun x2610 y2610 e2610 f2610 q2610 => ?_) (fun x2610 y2610 e2610 f2610 q2610 => ?_)
    · cases e2610
      cases f2610
      have c2610 := of_decide_eq_true q2610
      refine zSiload (m := 2) (k := 4) vr_51_48 rfl rfl rfl (fun x2611 e2611 => ?_)
      cases e2611
      refine zLiret vr_51_50 rfl (fun x2612 e2612 => ?_)
      cases e2612
      have e : k = 4 := by
        have y := c2610
        rw [i32_le, kk.2, z4] at y
        omega
      subst e
      rw [hD]
      exact ⟨rfl, rfl⟩
    · cases e2610
      cases f2610
      have c2610 := ndc q2610
      have k4 : k < 4 := by
        have y := c2610
        rw [i32_le, kk.2, z4] at y
        omega
      have hI : gF h 170 (Int32.ofNat k).toNatClampNeg = some (.ref (171 + 3 * k)) := by
        rw [kk.1]
        exact st_fac hS k4
      refine zSiload (m := 2) (k := 4) vr_51_12 rfl rfl rfl (fun x2613 e2613 => ?_)
      cases e2613
      refine zSaload (m := 1) (k := 0) vr_51_14 rfl rfl rfl ?_
      refine zLget vr_51_15 rfl (fun p2615 w2615 e2615 t2615 g2615 => ?_)
      cases e2615
      first | (rw [(st_169_0 hS)] at g2615; cases g2615) | (rw [hI] at g2615; cases g2615) | (rw [(st_fs hS k4)] at g2615; cases g2615) | skip
      refine zSiload (m := 2) (k := 5) vr_51_18 rfl rfl rfl (fun x2616 e2616 => ?_)
      cases e2616
      refine zLaald vr_51_20 rfl (fun p2617 x2617 w2617 e2617 f2617 c2617 t2617 g2617 => ?_)
      cases e2617
      cases f2617
      first | (rw [(st_169_0 hS)] at g2617; cases g2617) | (rw [hI] at g2617; cases g2617) | (rw [(st_fs hS k4)] at g2617; cases g2617) | skip
      refine zLget vr_51_21 rfl (fun p2618 w2618 e2618 t2618 g2618 => ?_)
      cases e2618
      first | (rw [(st_169_0 hS)] at g2618; cases g2618) | (rw [hI] at g2618; cases g2618) | (rw [(st_fs hS k4)] at g2618; cases g2618) | skip
      refine zSiload (m := 1) (k := 1) vr_51_24 rfl rfl rfl (fun x2619 e2619 => ?_)
      cases e2619
      refine zLiald vr_51_25 rfl (fun p2620 x2620 w2620 e2620 f2620 c2620 t2620 g2620 => ?_)
      cases e2620
      cases f2620
      first | (rw [(st_169_0 hS)] at g2620; cases g2620) | (rw [hI] at g2620; cases g2620) | (rw [(st_fs hS k4)] at g2620; cases g2620) | skip
      have g25 := g2620
      rw [hi] at g25
      refine zSaload (m := 1) (k := 0) vr_51_26 rfl rfl rfl ?_
      refine zLget vr_51_27 rfl (fun p2622 w2622 e2622 t2622 g2622 => ?_)
      cases e2622
      first | (rw [(st_169_0 hS)] at g2622; cases g2622) | (rw [hI] at g2622; cases g2622) | (rw [(st_fs hS k4)] at g2622; cases g2622) | skip
      refine zSiload (m := 2) (k := 5) vr_51_30 rfl rfl rfl (fun x2623 e2623 => ?_)
      cases e2623
      refine zLaald vr_51_32 rfl (fun p2624 x2624 w2624 e2624 f2624 c2624 t2624 g2624 => ?_)
      cases e2624
      cases f2624
      first | (rw [(st_169_0 hS)] at g2624; cases g2624) | (rw [hI] at g2624; cases g2624) | (rw [(st_fs hS k4)] at g2624; cases g2624) | skip
      refine zSaload (m := 1) (k := 2) vr_51_33 rfl rfl rfl ?_
      refine zSiload (m := 1) (k := 3) vr_51_34 rfl rfl rfl (fun x2626 e2626 => ?_)
      cases e2626
      refine zScall vr_51_35 rfl rfl rfl (fun m2627 _ => C_stance _ _ _ _ hS k4 hC) (fun v2627 h2627 u2627 q2627 => ?_) (fun E2627 h2627 u2627 q2627 => ?_)
      · obtain ⟨eh2627, z2627⟩ := q2627
        replace eh2627 := eh2627.symm
        subst eh2627
        cases z2627
        show zL zrx zi _ 51 38 [(5, _), (4, _), (0, _), (1, _), (2, _), (3, _)] [_, _, _] _ _ _
        refine zS2 (f := fun x y => .int (x * y)) vr_51_38 rfl rfl (fun x2628 y2628 e2628 f2628 => ?_)
        cases e2628
        cases f2628
        refine zS2 (f := fun x y => .int (x + y)) vr_51_39 rfl rfl (fun x2629 y2629 e2629 f2629 => ?_)
        cases e2629
        cases f2629
        refine zSistore (m := 2) (k := 4) vr_51_40 rfl rfl (fun x2630 e2630 => ?_)
        cases e2630
        show zL zrx zi _ 51 42 [(4, _), (5, _), (0, _), (1, _), (2, _), (3, _)] [] _ _ _
        refine zSiinc vr_51_42 rfl rfl (fun x2631 e2631 => ?_)
        cases e2631
        show zL zrx zi _ 51 45 [(5, _), (4, _), (0, _), (1, _), (2, _), (3, _)] [] _ _ _
        refine zSgo (t := 6) vr_51_45 rfl rfl ?_
        rw [ofNat_succ]
        refine zL_pm _ _ _ [(5, _), (4, _), (0, _), (1, _), (2, _), (3, _)] _ _ _ _ _ ⟨(List.forall_mem_cons.mpr ⟨List.mem_cons_self, (List.forall_mem_cons.mpr ⟨(List.mem_cons_of_mem _ List.mem_cons_self), (List.forall_mem_cons.mpr ⟨(List.mem_cons_of_mem _ (List.mem_cons_of_mem _ List.mem_cons_self)), (List.forall_mem_cons.mpr ⟨(List.mem_cons_of_mem _ (List.mem_cons_of_mem _ (List.mem_cons_of_mem _ List.mem_cons_self))), (List.forall_mem_cons.mpr ⟨(List.mem_cons_of_mem _ (List.mem_cons_of_mem _ (List.mem_cons_of_mem _ (List.mem_cons_of_mem _ List.mem_cons_self)))), (List.forall_mem_cons.mpr ⟨(List.mem_cons_of_mem _ (List.mem_cons_of_mem _ (List.mem_cons_of_mem _ (List.mem_cons_of_mem _ (List.mem_cons_of_mem _ List.mem_cons_self))))), (fun _ h => absurd h List.not_mem_nil)⟩)⟩)⟩)⟩)⟩)⟩), show ([5, 4, 0, 1, 2, 3] : List Nat).Nodup by decide⟩ (C_bal_loop hS hC hi n (k + 1) _ _ (by omega) ?_)
        show bCs _ _ k + iv h (173 + 3 * k) i * _ = _
        rw [hD, iv_of g25]
      · obtain ⟨-, z⟩ := q2627
        cases z
theorem C_bal (n : Nat) (rep : Int32) (h : List zC) (u : Nat) {A C i : Nat} {hv : Int32} (hS : Stc h) (hC : gF h A 1 = some (.ref C)) (hi : hv.toNatClampNeg = i) : zL zrx zi n 51 0 [(0, .ref 169), (1, .int hv), (2, .ref A), (3, .int rep)] [] h u (fun o h2 _ => h2 = h ∧ o = .inl (some (.int (bCs (fun f => iv h (173 + 3 * f) i) (fun f => sideC rep (iv h (171 + 3 * f) 3) (iv h A 0) (lkC h f C)) 4)))) := by
  refine zSp0 (pc' := 1) (st' := .int (0) :: _) vr_51_0 rfl rfl ?_
  refine zSistore (m := 2) (k := 4) vr_51_1 rfl rfl (fun x2634 e2634 => ?_)
  cases e2634
  show zL zrx zi _ 51 3 [(4, _), (0, _), (1, _), (2, _), (3, _)] [] _ _ _
  refine zSp0 (pc' := 4) (st' := .int (0) :: _) vr_51_3 rfl rfl ?_
  refine zSistore (m := 2) (k := 5) vr_51_4 rfl rfl (fun x2636 e2636 => ?_)
  cases e2636
  show zL zrx zi _ 51 6 [(5, _), (4, _), (0, _), (1, _), (2, _), (3, _)] [] _ _ _
  exact zL_pm _ _ _ [(5, _), (4, _), (0, _), (1, _), (2, _), (3, _)] _ _ _ _ _ ⟨(List.forall_mem_cons.mpr ⟨List.mem_cons_self, (List.forall_mem_cons.mpr ⟨(List.mem_cons_of_mem _ List.mem_cons_self), (List.forall_mem_cons.mpr ⟨(List.mem_cons_of_mem _ (List.mem_cons_of_mem _ List.mem_cons_self)), (List.forall_mem_cons.mpr ⟨(List.mem_cons_of_mem _ (List.mem_cons_of_mem _ (List.mem_cons_of_mem _ List.mem_cons_self))), (List.forall_mem_cons.mpr ⟨(List.mem_cons_of_mem _ (List.mem_cons_of_mem _ (List.mem_cons_of_mem _ (List.mem_cons_of_mem _ List.mem_cons_self)))), (List.forall_mem_cons.mpr ⟨(List.mem_cons_of_mem _ (List.mem_cons_of_mem _ (List.mem_cons_of_mem _ (List.mem_cons_of_mem _ (List.mem_cons_of_mem _ List.mem_cons_self))))), (fun _ h => absurd h List.not_mem_nil)⟩)⟩)⟩)⟩)⟩)⟩), show ([5, 4, 0, 1, 2, 3] : List Nat).Nodup by decide⟩ (C_bal_loop hS hC hi _ 0 0 _ (by omega) rfl)
set_option maxRecDepth 20000 in
theorem C_inF_loop {h : List zC} {A C : Nat} {rep : Int32} (hS : Stc h) (hC : gF h A 1 = some (.ref C)) : ∀ (n k : Nat) (r : Int32) (u : Nat), k ≤ 3 → hcF (fun i => bCs (fun f => iv h (173 + 3 * f) i) (fun f => sideC rep (iv h (171 + 3 * f) 3) (iv h A 0) (lkC h f C)) 4) k = r → zL zrx zi n 52 5 [(4, .int (Int32.ofNat k)), (3, .int r), (0, .ref 169), (1, .ref A), (2, .int rep)] [] h u (fun o h2 _ => h2 = h ∧ o = .inl (some (.int (hcF (fun i => bCs (fun f => iv h (173 + 3 * f) i) (fun f => sideC rep (iv h (171 + 3 * f) 3) (iv h A 0) (lkC h f C)) 4) 3))))
  | 0, _, _, _ => fun _ _ => trivial
  | n + 1, k, r, u => fun hk hD => by
    have kk := (toNat_ofNat (m := k) (by omega))
    have z3 : (3 : Int32).toInt = 3 := rfl
    refine zLp vr_52_5 rfl rfl ?_
    refine zSp0 (pc' := 8) (st' := .int (3) :: _) vr_52_7 rfl rfl ?_
    refine zSb2 (f := fun x y => decide (y ≤ x)) (off := 23) (t := 31) vr_52_8 rfl rfl rfl (fun x2638 y2638 e2638 f2638 q2638 => ?_) (fun x2638 y2638 e2638 f2638 q2638 => ?_)
    · cases e2638
      cases f2638
      have c2638 := of_decide_eq_true q2638
      refine zSiload (m := 1) (k := 3) vr_52_31 rfl rfl rfl (fun x2639 e2639 => ?_)
      cases e2639
      refine zLiret vr_52_32 rfl (fun x2640 e2640 => ?_)
      cases e2640
      have e : k = 3 := by
        have y := c2638
        rw [i32_le, kk.2, z3] at y
        omega
      subst e
      rw [hD]
      exact ⟨rfl, rfl⟩
    · cases e2638
      cases f2638
      have c2638 := ndc q2638
      have k3 : k < 3 := by
        have y := c2638
        rw [i32_le, kk.2, z3] at y
        omega
      refine zSaload (m := 1) (k := 0) vr_52_11 rfl rfl rfl ?_
      refine zSiload (m := 2) (k := 4) vr_52_12 rfl rfl rfl (fun x2642 e2642 => ?_)
      cases e2642
      refine zSaload (m := 1) (k := 1) vr_52_14 rfl rfl rfl ?_
      refine zSiload (m := 1) (k := 2) vr_52_15 rfl rfl rfl (fun x2644 e2644 => ?_)
      cases e2644
      refine zScall vr_52_16 rfl rfl rfl (fun m2645 _ => C_bal _ _ _ _ hS hC kk.1) (fun v2645 h2645 u2645 q2645 => ?_) (fun E2645 h2645 u2645 q2645 => ?_)
      · obtain ⟨eh2645, z2645⟩ := q2645
        replace eh2645 := eh2645.symm
        subst eh2645
        cases z2645
        show zL zrx zi _ 52 19 [(4, _), (3, _), (0, _), (1, _), (2, _)] [_] _ _ _
        refine zSb1 (f := fun x => decide (x ≤ 0)) (off := 6) (t := 25) vr_52_19 rfl rfl rfl (fun x2646 e2646 q2646 => ?_) (fun x2646 e2646 q2646 => ?_)
        · cases e2646
          have c2646 := of_decide_eq_true q2646
          refine zSiinc vr_52_25 rfl rfl (fun x2647 e2647 => ?_)
          cases e2647
          show zL zrx zi _ 52 28 [(4, _), (3, _), (0, _), (1, _), (2, _)] [] _ _ _
          refine zSgo (t := 5) vr_52_28 rfl rfl ?_
          rw [ofNat_succ]
          refine zL_pm _ _ _ [(4, _), (3, _), (0, _), (1, _), (2, _)] _ _ _ _ _ ⟨(List.forall_mem_cons.mpr ⟨List.mem_cons_self, (List.forall_mem_cons.mpr ⟨(List.mem_cons_of_mem _ List.mem_cons_self), (List.forall_mem_cons.mpr ⟨(List.mem_cons_of_mem _ (List.mem_cons_of_mem _ List.mem_cons_self)), (List.forall_mem_cons.mpr ⟨(List.mem_cons_of_mem _ (List.mem_cons_of_mem _ (List.mem_cons_of_mem _ List.mem_cons_self))), (List.forall_mem_cons.mpr ⟨(List.mem_cons_of_mem _ (List.mem_cons_of_mem _ (List.mem_cons_of_mem _ (List.mem_cons_of_mem _ List.mem_cons_self)))), (fun _ h => absurd h List.not_mem_nil)⟩)⟩)⟩)⟩)⟩), show ([4, 3, 0, 1, 2] : List Nat).Nodup by decide⟩ (C_inF_loop hS hC n (k + 1) _ _ (by omega) ?_)
          first
            | exact (hcF_n (B := (fun i => bCs (fun f => iv h (173 + 3 * f) i) (fun f => sideC rep (iv h (171 + 3 * f) 3) (iv h A 0) (lkC h f C)) 4)) (k := k) (Int32.not_lt.mpr c2646)).trans hD
            | exact (hcF_y (B := (fun i => bCs (fun f => iv h (173 + 3 * f) i) (fun f => sideC rep (iv h (171 + 3 * f) 3) (iv h A 0) (lkC h f C)) 4)) (k := k) (Int32.not_le.mp c2646)).trans (by rw [hD]; rfl)
        · cases e2646
          have c2646 := ndc q2646
          refine zSiinc vr_52_22 rfl rfl (fun x2649 e2649 => ?_)
          cases e2649
          show zL zrx zi _ 52 25 [(3, _), (4, _), (0, _), (1, _), (2, _)] [] _ _ _
          refine zSiinc vr_52_25 rfl rfl (fun x2650 e2650 => ?_)
          cases e2650
          show zL zrx zi _ 52 28 [(4, _), (3, _), (0, _), (1, _), (2, _)] [] _ _ _
          refine zSgo (t := 5) vr_52_28 rfl rfl ?_
          rw [ofNat_succ]
          refine zL_pm _ _ _ [(4, _), (3, _), (0, _), (1, _), (2, _)] _ _ _ _ _ ⟨(List.forall_mem_cons.mpr ⟨List.mem_cons_self, (List.forall_mem_cons.mpr ⟨(List.mem_cons_of_mem _ List.mem_cons_self), (List.forall_mem_cons.mpr ⟨(List.mem_cons_of_mem _ (List.mem_cons_of_mem _ List.mem_cons_self)), (List.forall_mem_cons.mpr ⟨(List.mem_cons_of_mem _ (List.mem_cons_of_mem _ (List.mem_cons_of_mem _ List.mem_cons_self))), (List.forall_mem_cons.mpr ⟨(List.mem_cons_of_mem _ (List.mem_cons_of_mem _ (List.mem_cons_of_mem _ (List.mem_cons_of_mem _ List.mem_cons_self)))), (fun _ h => absurd h List.not_mem_nil)⟩)⟩)⟩)⟩)⟩), show ([4, 3, 0, 1, 2] : List Nat).Nodup by decide⟩ (C_inF_loop hS hC n (k + 1) _ _ (by omega) ?_)
          first
            | exact (hcF_n (B := (fun i => bCs (fun f => iv h (173 + 3 * f) i) (fun f => sideC rep (iv h (171 + 3 * f) 3) (iv h A 0) (lkC h f C)) 4)) (k := k) (Int32.not_lt.mpr c2646)).trans hD
            | exact (hcF_y (B := (fun i => bCs (fun f => iv h (173 + 3 * f) i) (fun f => sideC rep (iv h (171 + 3 * f) 3) (iv h A 0) (lkC h f C)) 4)) (k := k) (Int32.not_le.mp c2646)).trans (by rw [hD]; rfl)
      · obtain ⟨-, z⟩ := q2645
        cases z
theorem C_inF (n : Nat) (rep : Int32) (h : List zC) (u : Nat) {A C : Nat} (hS : Stc h) (hC : gF h A 1 = some (.ref C)) : zL zrx zi n 52 0 [(0, .ref 169), (1, .ref A), (2, .int rep)] [] h u (fun o h2 _ => h2 = h ∧ o = .inl (some (.int (hcF (fun i => bCs (fun f => iv h (173 + 3 * f) i) (fun f => sideC rep (iv h (171 + 3 * f) 3) (iv h A 0) (lkC h f C)) 4) 3)))) := by
  refine zSp0 (pc' := 1) (st' := .int (0) :: _) vr_52_0 rfl rfl ?_
  refine zSistore (m := 1) (k := 3) vr_52_1 rfl rfl (fun x2653 e2653 => ?_)
  cases e2653
  show zL zrx zi _ 52 2 [(3, _), (0, _), (1, _), (2, _)] [] _ _ _
  refine zSp0 (pc' := 3) (st' := .int (0) :: _) vr_52_2 rfl rfl ?_
  refine zSistore (m := 2) (k := 4) vr_52_3 rfl rfl (fun x2655 e2655 => ?_)
  cases e2655
  show zL zrx zi _ 52 5 [(4, _), (3, _), (0, _), (1, _), (2, _)] [] _ _ _
  exact zL_pm _ _ _ [(4, _), (3, _), (0, _), (1, _), (2, _)] _ _ _ _ _ ⟨(List.forall_mem_cons.mpr ⟨List.mem_cons_self, (List.forall_mem_cons.mpr ⟨(List.mem_cons_of_mem _ List.mem_cons_self), (List.forall_mem_cons.mpr ⟨(List.mem_cons_of_mem _ (List.mem_cons_of_mem _ List.mem_cons_self)), (List.forall_mem_cons.mpr ⟨(List.mem_cons_of_mem _ (List.mem_cons_of_mem _ (List.mem_cons_of_mem _ List.mem_cons_self))), (List.forall_mem_cons.mpr ⟨(List.mem_cons_of_mem _ (List.mem_cons_of_mem _ (List.mem_cons_of_mem _ (List.mem_cons_of_mem _ List.mem_cons_self)))), (fun _ h => absurd h List.not_mem_nil)⟩)⟩)⟩)⟩)⟩), show ([4, 3, 0, 1, 2] : List Nat).Nodup by decide⟩ (C_inF_loop hS hC _ 0 0 _ (by omega) rfl)
theorem C_mlk (n : Nat) (fv x : Int32) (h : List zC) (u : Nat) {i : Nat} (hi : fv.toNatClampNeg = i) (i4 : i < 4) {el A : Nat} {cnt : Int32} (hS : Stc h) (hL : gF h 225 1 = some (.ref el)) (hs : gF h 225 2 = some (.int cnt)) (hq : gF h el x.toNatClampNeg = some (.ref A)) : zL zrx zi n 167 0 [(0, .ref 213), (1, .int fv), (2, .int x)] [] h u (fun o h2 _ => h2 = h ∧ o = .inl (some (.int (lkM h i A)))) := by
  refine zSaload (m := 1) (k := 0) vr_167_0 rfl rfl rfl ?_
  refine zLget vr_167_1 rfl (fun p2657 w2657 e2657 t2657 g2657 => ?_)
  cases e2657
  first | (rw [(st_213_9 hS)] at g2657; cases g2657) | (rw [(st_213_12 hS)] at g2657; cases g2657) | (rw [hM] at g2657; cases g2657) | (rw [(st_213_13 hS)] at g2657; cases g2657) | skip
  refine zSiload (m := 1) (k := 2) vr_167_4 rfl rfl rfl (fun x2658 e2658 => ?_)
  cases e2658
  refine zScall vr_167_5 rfl rfl rfl (fun m2659 _ => C_get _ _ _ _ _ hL hs) (fun v2659 h2659 u2659 q2659 => ?_) (fun E2659 h2659 u2659 q2659 => ?_)
  · obtain ⟨eh2659, y2659, w2659, z2659, k2659⟩ := q2659
    replace eh2659 := eh2659.symm
    subst eh2659
    cases z2659
    show zL zrx zi _ 167 10 [(0, _), (1, _), (2, _)] [_] _ _ _
    refine zLcst vr_167_10 rfl (fun p2660 e2660 => ?_)
    cases e2660
    have e1 := k2659
    rw [hq] at e1
    cases e1
    have hM : gF h 230 fv.toNatClampNeg = some (.ref (231 + i)) := by
      rw [hi]
      exact st_mr hS i4
    refine zSastore (m := 1) (k := 3) vr_167_13 rfl rfl ?_
    show zL zrx zi _ 167 14 [(3, _), (0, _), (1, _), (2, _)] [] _ _ _
    refine zSaload (m := 1) (k := 0) vr_167_14 rfl rfl rfl ?_
    refine zLget vr_167_15 rfl (fun p2663 w2663 e2663 t2663 g2663 => ?_)
    cases e2663
    first | (rw [(st_213_9 hS)] at g2663; cases g2663) | (rw [(st_213_12 hS)] at g2663; cases g2663) | (rw [hM] at g2663; cases g2663) | (rw [(st_213_13 hS)] at g2663; cases g2663) | skip
    refine zSiload (m := 1) (k := 1) vr_167_18 rfl rfl rfl (fun x2664 e2664 => ?_)
    cases e2664
    refine zLaald vr_167_19 rfl (fun p2665 x2665 w2665 e2665 f2665 c2665 t2665 g2665 => ?_)
    cases e2665
    cases f2665
    first | (rw [(st_213_9 hS)] at g2665; cases g2665) | (rw [(st_213_12 hS)] at g2665; cases g2665) | (rw [hM] at g2665; cases g2665) | (rw [(st_213_13 hS)] at g2665; cases g2665) | skip
    refine zSaload (m := 1) (k := 3) vr_167_20 rfl rfl rfl ?_
    refine zLget vr_167_21 rfl (fun p2667 w2667 e2667 t2667 g2667 => ?_)
    cases e2667
    first | (rw [(st_213_9 hS)] at g2667; cases g2667) | (rw [(st_213_12 hS)] at g2667; cases g2667) | (rw [hM] at g2667; cases g2667) | (rw [(st_213_13 hS)] at g2667; cases g2667) | skip
    refine zLiald vr_167_24 rfl (fun p2668 x2668 w2668 e2668 f2668 c2668 t2668 g2668 => ?_)
    cases e2668
    cases f2668
    first | (rw [(st_213_9 hS)] at g2668; cases g2668) | (rw [(st_213_12 hS)] at g2668; cases g2668) | (rw [hM] at g2668; cases g2668) | (rw [(st_213_13 hS)] at g2668; cases g2668) | skip
    refine zSaload (m := 1) (k := 3) vr_167_25 rfl rfl rfl ?_
    refine zLget vr_167_26 rfl (fun p2670 w2670 e2670 t2670 g2670 => ?_)
    cases e2670
    first | (rw [(st_213_9 hS)] at g2670; cases g2670) | (rw [(st_213_12 hS)] at g2670; cases g2670) | (rw [hM] at g2670; cases g2670) | (rw [(st_213_13 hS)] at g2670; cases g2670) | skip
    refine zSb1 (f := fun x => decide (x < 0)) (off := 23) (t := 52) vr_167_29 rfl rfl rfl (fun x2671 e2671 q2671 => ?_) (fun x2671 e2671 q2671 => ?_)
    · cases e2671
      have c2671 := of_decide_eq_true q2671
      refine zSp0 (pc' := 53) (st' := .int (0) :: _) vr_167_52 rfl rfl ?_
      refine zS2 (f := fun x y => .int (x + y)) vr_167_53 rfl rfl (fun x2673 y2673 e2673 f2673 => ?_)
      cases e2673
      cases f2673
      refine zLiret vr_167_54 rfl (fun x2674 e2674 => ?_)
      cases e2674
      refine ⟨rfl, ?_⟩
      unfold lkM lk
      rw [iv_of g2667, iv_of g2668, iv_of g2670]
      first
        | rw [if_pos c2671, Int32.add_zero]
        | (have e := (iv_of g2670).symm.trans (iv_of g2629)
           rw [iv_of g37, if_neg c2671, e])
    · cases e2671
      have c2671 := ndc q2671
      refine zSaload (m := 1) (k := 0) vr_167_32 rfl rfl rfl ?_
      refine zLget vr_167_33 rfl (fun p2676 w2676 e2676 t2676 g2676 => ?_)
      cases e2676
      first | (rw [(st_213_9 hS)] at g2676; cases g2676) | (rw [(st_213_12 hS)] at g2676; cases g2676) | (rw [hM] at g2676; cases g2676) | (rw [(st_213_13 hS)] at g2676; cases g2676) | skip
      refine zSiload (m := 1) (k := 1) vr_167_36 rfl rfl rfl (fun x2677 e2677 => ?_)
      cases e2677
      refine zLiald vr_167_37 rfl (fun p2678 x2678 w2678 e2678 f2678 c2678 t2678 g2678 => ?_)
      cases e2678
      cases f2678
      first | (rw [(st_213_9 hS)] at g2678; cases g2678) | (rw [(st_213_12 hS)] at g2678; cases g2678) | (rw [hM] at g2678; cases g2678) | (rw [(st_213_13 hS)] at g2678; cases g2678) | skip
      have g37 := g2678
      rw [hi] at g37
      refine zSaload (m := 1) (k := 3) vr_167_38 rfl rfl rfl ?_
      refine zLget vr_167_39 rfl (fun p2680 w2680 e2680 t2680 g2680 => ?_)
      cases e2680
      first | (rw [(st_213_9 hS)] at g2680; cases g2680) | (rw [(st_213_12 hS)] at g2680; cases g2680) | (rw [hM] at g2680; cases g2680) | (rw [(st_213_13 hS)] at g2680; cases g2680) | skip
      refine zSp0 (pc' := 44) (st' := .int (50) :: _) vr_167_42 rfl rfl ?_
      refine zS2 (f := fun x y => .int (x - y)) vr_167_44 rfl rfl (fun x2682 y2682 e2682 f2682 => ?_)
      cases e2682
      cases f2682
      refine zS2 (f := fun x y => .int (x * y)) vr_167_45 rfl rfl (fun x2683 y2683 e2683 f2683 => ?_)
      cases e2683
      cases f2683
      refine zSp0 (pc' := 48) (st' := .int (25) :: _) vr_167_46 rfl rfl ?_
      refine zSdiv vr_167_48 rfl (fun x2685 y2685 e2685 f2685 g2685 => ?_)
      cases e2685
      cases f2685
      refine zSgo (t := 53) vr_167_49 rfl rfl ?_
      refine zS2 (f := fun x y => .int (x + y)) vr_167_53 rfl rfl (fun x2687 y2687 e2687 f2687 => ?_)
      cases e2687
      cases f2687
      refine zLiret vr_167_54 rfl (fun x2688 e2688 => ?_)
      cases e2688
      refine ⟨rfl, ?_⟩
      unfold lkM lk
      rw [iv_of g2667, iv_of g2668, iv_of g2670]
      first
        | rw [if_pos c2671, Int32.add_zero]
        | (have e := (iv_of g2670).symm.trans (iv_of g2680)
           rw [iv_of g37, if_neg c2671, e])
  · obtain ⟨-, -, w, z, -⟩ := q2659
    cases z
set_option maxRecDepth 20000 in
theorem C_mar_loop {h : List zC} {x hv rep : Int32} {i el A : Nat} {cnt : Int32} (hi : hv.toNatClampNeg = i) (i3 : i < 3) (hS : Stc h) (hL : gF h 225 1 = some (.ref el)) (hs : gF h 225 2 = some (.int cnt)) (hq : gF h el x.toNatClampNeg = some (.ref A)) : ∀ (n k : Nat) (r : Int32) (w w2 : Value) (u : Nat), k ≤ 4 → bMs (fun f => iv h (227 + i) f) (fun f => byM rep (iv h 236 f) x (lkM h f A)) k = r → zL zrx zi n 168 6 [(5, .int (Int32.ofNat k)), (4, .int r), (0, .ref 213), (1, .int x), (2, .int hv), (3, .int rep), (6, w), (7, w2)] [] h u (fun o h2 _ => h2 = h ∧ o = .inl (some (.int (bMs (fun f => iv h (227 + i) f) (fun f => byM rep (iv h 236 f) x (lkM h f A)) 4))))
  | 0, _, _, _, _, _ => fun _ _ => trivial
  | n + 1, k, r, w, w2, u => fun hk hD => by
    have kk := (toNat_ofNat (m := k) (by omega))
    have z4 : (4 : Int32).toInt = 4 := rfl
    refine zLp vr_168_6 rfl rfl ?_
    refine zSp0 (pc' := 9) (st' := .int (4) :: _) vr_168_8 rfl rfl ?_
    refine zSb2 (f := fun x y => decide (y ≤ x)) (off := 88) (t := 97) vr_168_9 rfl rfl rfl (fun x2690 y2690 e2690 f2690 q2690 => ?_) (fun x2690 y2690 e2690 f2690 q2690 => ?_)
    · cases e2690
      cases f2690
      have c2690 := of_decide_eq_true q2690
      refine zSiload (m := 2) (k := 4) vr_168_97 rfl rfl rfl (fun x2691 e2691 => ?_)
      cases e2691
      refine zLiret vr_168_99 rfl (fun x2692 e2692 => ?_)
      cases e2692
      have e : k = 4 := by
        have y := c2690
        rw [i32_le, kk.2, z4] at y
        omega
      subst e
      rw [hD]
      exact ⟨rfl, rfl⟩
    · cases e2690
      cases f2690
      have c2690 := ndc q2690
      have k4 : k < 4 := by
        have y := c2690
        rw [i32_le, kk.2, z4] at y
        omega
      have hH : gF h 226 hv.toNatClampNeg = some (.ref (227 + i)) := by
        rw [hi]
        exact st_hs hS i3
      refine zSaload (m := 1) (k := 0) vr_168_12 rfl rfl rfl ?_
      refine zSiload (m := 2) (k := 5) vr_168_13 rfl rfl rfl (fun x2694 e2694 => ?_)
      cases e2694
      refine zSiload (m := 1) (k := 1) vr_168_15 rfl rfl rfl (fun x2695 e2695 => ?_)
      cases e2695
      refine zScall vr_168_16 rfl rfl rfl (fun m2696 _ => C_mlk _ _ _ _ _ kk.1 k4 hS hL hs hq) (fun v2696 h2696 u2696 q2696 => ?_) (fun E2696 h2696 u2696 q2696 => ?_)
      · obtain ⟨eh2696, z2696⟩ := q2696
        replace eh2696 := eh2696.symm
        subst eh2696
        cases z2696
        show zL zrx zi _ 168 19 [(5, _), (4, _), (0, _), (1, _), (2, _), (3, _), (6, _), (7, _)] [_] _ _ _
        refine zSistore (m := 2) (k := 6) vr_168_19 rfl rfl (fun x2697 e2697 => ?_)
        cases e2697
        show zL zrx zi _ 168 21 [(6, _), (5, _), (4, _), (0, _), (1, _), (2, _), (3, _), (7, _)] [] _ _ _
        refine zSiload (m := 1) (k := 3) vr_168_21 rfl rfl rfl (fun x2698 e2698 => ?_)
        cases e2698
        refine zSb1 (f := fun x => decide (x = 0)) (off := 9) (t := 31) vr_168_22 rfl rfl rfl (fun x2699 e2699 q2699 => ?_) (fun x2699 e2699 q2699 => ?_)
        · cases e2699
          have c2699 := of_decide_eq_true q2699
          refine zSaload (m := 1) (k := 0) vr_168_31 rfl rfl rfl ?_
          refine zLget vr_168_32 rfl (fun p2701 w2701 e2701 t2701 g2701 => ?_)
          cases e2701
          first | (rw [(st_213_11 hS)] at g2701; cases g2701) | (rw [(st_213_14 hS)] at g2701; cases g2701) | (rw [hH] at g2701; cases g2701) | skip
          refine zSiload (m := 2) (k := 5) vr_168_35 rfl rfl rfl (fun x2702 e2702 => ?_)
          cases e2702
          refine zLiald vr_168_37 rfl (fun p2703 x2703 w2703 e2703 f2703 c2703 t2703 g2703 => ?_)
          cases e2703
          cases f2703
          first | (rw [(st_213_11 hS)] at g2703; cases g2703) | (rw [(st_213_14 hS)] at g2703; cases g2703) | (rw [hH] at g2703; cases g2703) | skip
          have g37 := g2703
          rw [kk.1] at g37
          refine zSiload (m := 1) (k := 1) vr_168_38 rfl rfl rfl (fun x2704 e2704 => ?_)
          cases e2704
          refine zSb2 (f := fun x y => decide (¬ x = y)) (off := 7) (t := 46) vr_168_39 rfl rfl rfl (fun x2705 y2705 e2705 f2705 q2705 => ?_) (fun x2705 y2705 e2705 f2705 q2705 => ?_)
          · cases e2705
            cases f2705
            have c2705 := of_decide_eq_true q2705
            refine zSiload (m := 2) (k := 6) vr_168_46 rfl rfl rfl (fun x2706 e2706 => ?_)
            cases e2706
            refine zSistore (m := 2) (k := 7) vr_168_48 rfl rfl (fun x2707 e2707 => ?_)
            cases e2707
            show zL zrx zi _ 168 50 [(7, _), (6, _), (5, _), (4, _), (0, _), (1, _), (2, _), (3, _)] [] _ _ _
            refine zSiload (m := 2) (k := 4) vr_168_50 rfl rfl rfl (fun x2708 e2708 => ?_)
            cases e2708
            refine zSiload (m := 2) (k := 7) vr_168_52 rfl rfl rfl (fun x2709 e2709 => ?_)
            cases e2709
            refine zSb1 (f := fun x => decide (x ≤ 0)) (off := 15) (t := 69) vr_168_54 rfl rfl rfl (fun x2710 e2710 q2710 => ?_) (fun x2710 e2710 q2710 => ?_)
            · cases e2710
              have c2710 := of_decide_eq_true q2710
              refine zSiload (m := 2) (k := 7) vr_168_69 rfl rfl rfl (fun x2711 e2711 => ?_)
              cases e2711
              refine zSb1 (f := fun x => decide (0 ≤ x)) (off := 16) (t := 87) vr_168_71 rfl rfl rfl (fun x2712 e2712 q2712 => ?_) (fun x2712 e2712 q2712 => ?_)
              · cases e2712
                have c2712 := of_decide_eq_true q2712
                refine zSp0 (pc' := 88) (st' := .int (0) :: _) vr_168_87 rfl rfl ?_
                refine zS2 (f := fun x y => .int (x + y)) vr_168_88 rfl rfl (fun x2714 y2714 e2714 f2714 => ?_)
                cases e2714
                cases f2714
                refine zSistore (m := 2) (k := 4) vr_168_89 rfl rfl (fun x2715 e2715 => ?_)
                cases e2715
                show zL zrx zi _ 168 91 [(4, _), (7, _), (6, _), (5, _), (0, _), (1, _), (2, _), (3, _)] [] _ _ _
                refine zSiinc vr_168_91 rfl rfl (fun x2716 e2716 => ?_)
                cases e2716
                show zL zrx zi _ 168 94 [(5, _), (4, _), (7, _), (6, _), (0, _), (1, _), (2, _), (3, _)] [] _ _ _
                refine zSgo (t := 6) vr_168_94 rfl rfl ?_
                rw [ofNat_succ]
                refine zL_pm _ _ _ [(5, _), (4, _), (0, _), (1, _), (2, _), (3, _), (6, _), (7, _)] _ _ _ _ _ ⟨(List.forall_mem_cons.mpr ⟨List.mem_cons_self, (List.forall_mem_cons.mpr ⟨(List.mem_cons_of_mem _ List.mem_cons_self), (List.forall_mem_cons.mpr ⟨(List.mem_cons_of_mem _ (List.mem_cons_of_mem _ (List.mem_cons_of_mem _ (List.mem_cons_of_mem _ (List.mem_cons_of_mem _ (List.mem_cons_of_mem _ (List.mem_cons_of_mem _ List.mem_cons_self))))))), (List.forall_mem_cons.mpr ⟨(List.mem_cons_of_mem _ (List.mem_cons_of_mem _ (List.mem_cons_of_mem _ (List.mem_cons_of_mem _ (List.mem_cons_of_mem _ (List.mem_cons_of_mem _ List.mem_cons_self)))))), (List.forall_mem_cons.mpr ⟨(List.mem_cons_of_mem _ (List.mem_cons_of_mem _ List.mem_cons_self)), (List.forall_mem_cons.mpr ⟨(List.mem_cons_of_mem _ (List.mem_cons_of_mem _ (List.mem_cons_of_mem _ List.mem_cons_self))), (List.forall_mem_cons.mpr ⟨(List.mem_cons_of_mem _ (List.mem_cons_of_mem _ (List.mem_cons_of_mem _ (List.mem_cons_of_mem _ List.mem_cons_self)))), (List.forall_mem_cons.mpr ⟨(List.mem_cons_of_mem _ (List.mem_cons_of_mem _ (List.mem_cons_of_mem _ (List.mem_cons_of_mem _ (List.mem_cons_of_mem _ List.mem_cons_self))))), (fun _ h => absurd h List.not_mem_nil)⟩)⟩)⟩)⟩)⟩)⟩)⟩)⟩), show ([5, 4, 0, 1, 2, 3, 6, 7] : List Nat).Nodup by decide⟩ (C_mar_loop hi i3 hS hL hs hq n (k + 1) _ _ _ _ (by omega) ?_)
                first
                  | (have hb : byM rep (iv h 236 k) x (lkM h k A) = _ := if_neg c2699
                     show bMs _ _ k + sgn (byM rep (iv h 236 k) x (lkM h k A)) (iv h (227 + i) k) = _
                     rw [hD, hb]
                     congr 1
                     unfold sgn
                     rw [iv_of g65]
                     exact if_pos (Int32.not_le.mp c2710))
                  | (have hb : byM rep (iv h 236 k) x (lkM h k A) = _ := if_neg c2699
                     show bMs _ _ k + sgn (byM rep (iv h 236 k) x (lkM h k A)) (iv h (227 + i) k) = _
                     rw [hD, hb]
                     congr 1
                     unfold sgn
                     rw [iv_of g82]
                     exact (if_neg (Int32.not_lt.mpr c2710)).trans (if_pos (Int32.not_le.mp c2712)))
                  | (have hb : byM rep (iv h 236 k) x (lkM h k A) = _ := if_neg c2699
                     show bMs _ _ k + sgn (byM rep (iv h 236 k) x (lkM h k A)) (iv h (227 + i) k) = _
                     rw [hD, hb]
                     congr 1
                     unfold sgn
                     exact (if_neg (Int32.not_lt.mpr c2710)).trans (if_neg (Int32.not_lt.mpr c2712)))
                  | (have hb : byM rep (iv h 236 k) x (lkM h k A) = _ := (if_pos c2699).trans (if_neg (by rw [iv_of g37]; exact c2705))
                     show bMs _ _ k + sgn (byM rep (iv h 236 k) x (lkM h k A)) (iv h (227 + i) k) = _
                     rw [hD, hb]
                     congr 1
                     unfold sgn
                     rw [iv_of g65]
                     exact if_pos (Int32.not_le.mp c2710))
                  | (have hb : byM rep (iv h 236 k) x (lkM h k A) = _ := (if_pos c2699).trans (if_neg (by rw [iv_of g37]; exact c2705))
                     show bMs _ _ k + sgn (byM rep (iv h 236 k) x (lkM h k A)) (iv h (227 + i) k) = _
                     rw [hD, hb]
                     congr 1
                     unfold sgn
                     rw [iv_of g82]
                     exact (if_neg (Int32.not_lt.mpr c2710)).trans (if_pos (Int32.not_le.mp c2712)))
                  | (have hb : byM rep (iv h 236 k) x (lkM h k A) = _ := (if_pos c2699).trans (if_neg (by rw [iv_of g37]; exact c2705))
                     show bMs _ _ k + sgn (byM rep (iv h 236 k) x (lkM h k A)) (iv h (227 + i) k) = _
                     rw [hD, hb]
                     congr 1
                     unfold sgn
                     exact (if_neg (Int32.not_lt.mpr c2710)).trans (if_neg (Int32.not_lt.mpr c2712)))
                  | (have hb : byM rep (iv h 236 k) x (lkM h k A) = _ := (if_pos c2699).trans (if_pos (by rw [iv_of g37]; exact Decidable.not_not.mp c2705))
                     show bMs _ _ k + sgn (byM rep (iv h 236 k) x (lkM h k A)) (iv h (227 + i) k) = _
                     rw [hD, hb]
                     congr 1
                     unfold sgn
                     rw [iv_of g65]
                     exact if_pos (Int32.not_le.mp c2710))
                  | (have hb : byM rep (iv h 236 k) x (lkM h k A) = _ := (if_pos c2699).trans (if_pos (by rw [iv_of g37]; exact Decidable.not_not.mp c2705))
                     show bMs _ _ k + sgn (byM rep (iv h 236 k) x (lkM h k A)) (iv h (227 + i) k) = _
                     rw [hD, hb]
                     congr 1
                     unfold sgn
                     rw [iv_of g82]
                     exact (if_neg (Int32.not_lt.mpr c2710)).trans (if_pos (Int32.not_le.mp c2712)))
                  | (have hb : byM rep (iv h 236 k) x (lkM h k A) = _ := (if_pos c2699).trans (if_pos (by rw [iv_of g37]; exact Decidable.not_not.mp c2705))
                     show bMs _ _ k + sgn (byM rep (iv h 236 k) x (lkM h k A)) (iv h (227 + i) k) = _
                     rw [hD, hb]
                     congr 1
                     unfold sgn
                     exact (if_neg (Int32.not_lt.mpr c2710)).trans (if_neg (Int32.not_lt.mpr c2712)))
              · cases e2712
                have c2712 := ndc q2712
                refine zSaload (m := 1) (k := 0) vr_168_74 rfl rfl rfl ?_
                refine zLget vr_168_75 rfl (fun p2719 w2719 e2719 t2719 g2719 => ?_)
                cases e2719
                first | (rw [(st_213_11 hS)] at g2719; cases g2719) | (rw [(st_213_14 hS)] at g2719; cases g2719) | (rw [hH] at g2719; cases g2719) | skip
                refine zSiload (m := 1) (k := 2) vr_168_78 rfl rfl rfl (fun x2720 e2720 => ?_)
                cases e2720
                refine zLaald vr_168_79 rfl (fun p2721 x2721 w2721 e2721 f2721 c2721 t2721 g2721 => ?_)
                cases e2721
                cases f2721
                first | (rw [(st_213_11 hS)] at g2721; cases g2721) | (rw [(st_213_14 hS)] at g2721; cases g2721) | (rw [hH] at g2721; cases g2721) | skip
                refine zSiload (m := 2) (k := 5) vr_168_80 rfl rfl rfl (fun x2722 e2722 => ?_)
                cases e2722
                refine zLiald vr_168_82 rfl (fun p2723 x2723 w2723 e2723 f2723 c2723 t2723 g2723 => ?_)
                cases e2723
                cases f2723
                first | (rw [(st_213_11 hS)] at g2723; cases g2723) | (rw [(st_213_14 hS)] at g2723; cases g2723) | (rw [hH] at g2723; cases g2723) | skip
                have g82 := g2723
                rw [kk.1] at g82
                refine zS1 (f := fun x => .int (-x)) vr_168_83 rfl rfl (fun x2724 e2724 => ?_)
                cases e2724
                refine zSgo (t := 88) vr_168_84 rfl rfl ?_
                refine zS2 (f := fun x y => .int (x + y)) vr_168_88 rfl rfl (fun x2726 y2726 e2726 f2726 => ?_)
                cases e2726
                cases f2726
                refine zSistore (m := 2) (k := 4) vr_168_89 rfl rfl (fun x2727 e2727 => ?_)
                cases e2727
                show zL zrx zi _ 168 91 [(4, _), (7, _), (6, _), (5, _), (0, _), (1, _), (2, _), (3, _)] [] _ _ _
                refine zSiinc vr_168_91 rfl rfl (fun x2728 e2728 => ?_)
                cases e2728
                show zL zrx zi _ 168 94 [(5, _), (4, _), (7, _), (6, _), (0, _), (1, _), (2, _), (3, _)] [] _ _ _
                refine zSgo (t := 6) vr_168_94 rfl rfl ?_
                rw [ofNat_succ]
                refine zL_pm _ _ _ [(5, _), (4, _), (0, _), (1, _), (2, _), (3, _), (6, _), (7, _)] _ _ _ _ _ ⟨(List.forall_mem_cons.mpr ⟨List.mem_cons_self, (List.forall_mem_cons.mpr ⟨(List.mem_cons_of_mem _ List.mem_cons_self), (List.forall_mem_cons.mpr ⟨(List.mem_cons_of_mem _ (List.mem_cons_of_mem _ (List.mem_cons_of_mem _ (List.mem_cons_of_mem _ (List.mem_cons_of_mem _ (List.mem_cons_of_mem _ (List.mem_cons_of_mem _ List.mem_cons_self))))))), (List.forall_mem_cons.mpr ⟨(List.mem_cons_of_mem _ (List.mem_cons_of_mem _ (List.mem_cons_of_mem _ (List.mem_cons_of_mem _ (List.mem_cons_of_mem _ (List.mem_cons_of_mem _ List.mem_cons_self)))))), (List.forall_mem_cons.mpr ⟨(List.mem_cons_of_mem _ (List.mem_cons_of_mem _ List.mem_cons_self)), (List.forall_mem_cons.mpr ⟨(List.mem_cons_of_mem _ (List.mem_cons_of_mem _ (List.mem_cons_of_mem _ List.mem_cons_self))), (List.forall_mem_cons.mpr ⟨(List.mem_cons_of_mem _ (List.mem_cons_of_mem _ (List.mem_cons_of_mem _ (List.mem_cons_of_mem _ List.mem_cons_self)))), (List.forall_mem_cons.mpr ⟨(List.mem_cons_of_mem _ (List.mem_cons_of_mem _ (List.mem_cons_of_mem _ (List.mem_cons_of_mem _ (List.mem_cons_of_mem _ List.mem_cons_self))))), (fun _ h => absurd h List.not_mem_nil)⟩)⟩)⟩)⟩)⟩)⟩)⟩)⟩), show ([5, 4, 0, 1, 2, 3, 6, 7] : List Nat).Nodup by decide⟩ (C_mar_loop hi i3 hS hL hs hq n (k + 1) _ _ _ _ (by omega) ?_)
                first
                  | (have hb : byM rep (iv h 236 k) x (lkM h k A) = _ := if_neg c2699
                     show bMs _ _ k + sgn (byM rep (iv h 236 k) x (lkM h k A)) (iv h (227 + i) k) = _
                     rw [hD, hb]
                     congr 1
                     unfold sgn
                     rw [iv_of g65]
                     exact if_pos (Int32.not_le.mp c2710))
                  | (have hb : byM rep (iv h 236 k) x (lkM h k A) = _ := if_neg c2699
                     show bMs _ _ k + sgn (byM rep (iv h 236 k) x (lkM h k A)) (iv h (227 + i) k) = _
                     rw [hD, hb]
                     congr 1
                     unfold sgn
                     rw [iv_of g82]
                     exact (if_neg (Int32.not_lt.mpr c2710)).trans (if_pos (Int32.not_le.mp c2712)))
                  | (have hb : byM rep (iv h 236 k) x (lkM h k A) = _ := if_neg c2699
                     show bMs _ _ k + sgn (byM rep (iv h 236 k) x (lkM h k A)) (iv h (227 + i) k) = _
                     rw [hD, hb]
                     congr 1
                     unfold sgn
                     exact (if_neg (Int32.not_lt.mpr c2710)).trans (if_neg (Int32.not_lt.mpr c2712)))
                  | (have hb : byM rep (iv h 236 k) x (lkM h k A) = _ := (if_pos c2699).trans (if_neg (by rw [iv_of g37]; exact c2705))
                     show bMs _ _ k + sgn (byM rep (iv h 236 k) x (lkM h k A)) (iv h (227 + i) k) = _
                     rw [hD, hb]
                     congr 1
                     unfold sgn
                     rw [iv_of g65]
                     exact if_pos (Int32.not_le.mp c2710))
                  | (have hb : byM rep (iv h 236 k) x (lkM h k A) = _ := (if_pos c2699).trans (if_neg (by rw [iv_of g37]; exact c2705))
                     show bMs _ _ k + sgn (byM rep (iv h 236 k) x (lkM h k A)) (iv h (227 + i) k) = _
                     rw [hD, hb]
                     congr 1
                     unfold sgn
                     rw [iv_of g82]
                     exact (if_neg (Int32.not_lt.mpr c2710)).trans (if_pos (Int32.not_le.mp c2712)))
                  | (have hb : byM rep (iv h 236 k) x (lkM h k A) = _ := (if_pos c2699).trans (if_neg (by rw [iv_of g37]; exact c2705))
                     show bMs _ _ k + sgn (byM rep (iv h 236 k) x (lkM h k A)) (iv h (227 + i) k) = _
                     rw [hD, hb]
                     congr 1
                     unfold sgn
                     exact (if_neg (Int32.not_lt.mpr c2710)).trans (if_neg (Int32.not_lt.mpr c2712)))
                  | (have hb : byM rep (iv h 236 k) x (lkM h k A) = _ := (if_pos c2699).trans (if_pos (by rw [iv_of g37]; exact Decidable.not_not.mp c2705))
                     show bMs _ _ k + sgn (byM rep (iv h 236 k) x (lkM h k A)) (iv h (227 + i) k) = _
                     rw [hD, hb]
                     congr 1
                     unfold sgn
                     rw [iv_of g65]
                     exact if_pos (Int32.not_le.mp c2710))
                  | (have hb : byM rep (iv h 236 k) x (lkM h k A) = _ := (if_pos c2699).trans (if_pos (by rw [iv_of g37]; exact Decidable.not_not.mp c2705))
                     show bMs _ _ k + sgn (byM rep (iv h 236 k) x (lkM h k A)) (iv h (227 + i) k) = _
                     rw [hD, hb]
                     congr 1
                     unfold sgn
                     rw [iv_of g82]
                     exact (if_neg (Int32.not_lt.mpr c2710)).trans (if_pos (Int32.not_le.mp c2712)))
                  | (have hb : byM rep (iv h 236 k) x (lkM h k A) = _ := (if_pos c2699).trans (if_pos (by rw [iv_of g37]; exact Decidable.not_not.mp c2705))
                     show bMs _ _ k + sgn (byM rep (iv h 236 k) x (lkM h k A)) (iv h (227 + i) k) = _
                     rw [hD, hb]
                     congr 1
                     unfold sgn
                     exact (if_neg (Int32.not_lt.mpr c2710)).trans (if_neg (Int32.not_lt.mpr c2712)))
            · cases e2710
              have c2710 := ndc q2710
              refine zSaload (m := 1) (k := 0) vr_168_57 rfl rfl rfl ?_
              refine zLget vr_168_58 rfl (fun p2731 w2731 e2731 t2731 g2731 => ?_)
              cases e2731
              first | (rw [(st_213_11 hS)] at g2731; cases g2731) | (rw [(st_213_14 hS)] at g2731; cases g2731) | (rw [hH] at g2731; cases g2731) | skip
              refine zSiload (m := 1) (k := 2) vr_168_61 rfl rfl rfl (fun x2732 e2732 => ?_)
              cases e2732
              refine zLaald vr_168_62 rfl (fun p2733 x2733 w2733 e2733 f2733 c2733 t2733 g2733 => ?_)
              cases e2733
              cases f2733
              first | (rw [(st_213_11 hS)] at g2733; cases g2733) | (rw [(st_213_14 hS)] at g2733; cases g2733) | (rw [hH] at g2733; cases g2733) | skip
              refine zSiload (m := 2) (k := 5) vr_168_63 rfl rfl rfl (fun x2734 e2734 => ?_)
              cases e2734
              refine zLiald vr_168_65 rfl (fun p2735 x2735 w2735 e2735 f2735 c2735 t2735 g2735 => ?_)
              cases e2735
              cases f2735
              first | (rw [(st_213_11 hS)] at g2735; cases g2735) | (rw [(st_213_14 hS)] at g2735; cases g2735) | (rw [hH] at g2735; cases g2735) | skip
              have g65 := g2735
              rw [kk.1] at g65
              refine zSgo (t := 88) vr_168_66 rfl rfl ?_
              refine zS2 (f := fun x y => .int (x + y)) vr_168_88 rfl rfl (fun x2737 y2737 e2737 f2737 => ?_)
              cases e2737
              cases f2737
              refine zSistore (m := 2) (k := 4) vr_168_89 rfl rfl (fun x2738 e2738 => ?_)
              cases e2738
              show zL zrx zi _ 168 91 [(4, _), (7, _), (6, _), (5, _), (0, _), (1, _), (2, _), (3, _)] [] _ _ _
              refine zSiinc vr_168_91 rfl rfl (fun x2739 e2739 => ?_)
              cases e2739
              show zL zrx zi _ 168 94 [(5, _), (4, _), (7, _), (6, _), (0, _), (1, _), (2, _), (3, _)] [] _ _ _
              refine zSgo (t := 6) vr_168_94 rfl rfl ?_
              rw [ofNat_succ]
              refine zL_pm _ _ _ [(5, _), (4, _), (0, _), (1, _), (2, _), (3, _), (6, _), (7, _)] _ _ _ _ _ ⟨(List.forall_mem_cons.mpr ⟨List.mem_cons_self, (List.forall_mem_cons.mpr ⟨(List.mem_cons_of_mem _ List.mem_cons_self), (List.forall_mem_cons.mpr ⟨(List.mem_cons_of_mem _ (List.mem_cons_of_mem _ (List.mem_cons_of_mem _ (List.mem_cons_of_mem _ (List.mem_cons_of_mem _ (List.mem_cons_of_mem _ (List.mem_cons_of_mem _ List.mem_cons_self))))))), (List.forall_mem_cons.mpr ⟨(List.mem_cons_of_mem _ (List.mem_cons_of_mem _ (List.mem_cons_of_mem _ (List.mem_cons_of_mem _ (List.mem_cons_of_mem _ (List.mem_cons_of_mem _ List.mem_cons_self)))))), (List.forall_mem_cons.mpr ⟨(List.mem_cons_of_mem _ (List.mem_cons_of_mem _ List.mem_cons_self)), (List.forall_mem_cons.mpr ⟨(List.mem_cons_of_mem _ (List.mem_cons_of_mem _ (List.mem_cons_of_mem _ List.mem_cons_self))), (List.forall_mem_cons.mpr ⟨(List.mem_cons_of_mem _ (List.mem_cons_of_mem _ (List.mem_cons_of_mem _ (List.mem_cons_of_mem _ List.mem_cons_self)))), (List.forall_mem_cons.mpr ⟨(List.mem_cons_of_mem _ (List.mem_cons_of_mem _ (List.mem_cons_of_mem _ (List.mem_cons_of_mem _ (List.mem_cons_of_mem _ List.mem_cons_self))))), (fun _ h => absurd h List.not_mem_nil)⟩)⟩)⟩)⟩)⟩)⟩)⟩)⟩), show ([5, 4, 0, 1, 2, 3, 6, 7] : List Nat).Nodup by decide⟩ (C_mar_loop hi i3 hS hL hs hq n (k + 1) _ _ _ _ (by omega) ?_)
              first
                | (have hb : byM rep (iv h 236 k) x (lkM h k A) = _ := if_neg c2699
                   show bMs _ _ k + sgn (byM rep (iv h 236 k) x (lkM h k A)) (iv h (227 + i) k) = _
                   rw [hD, hb]
                   congr 1
                   unfold sgn
                   rw [iv_of g65]
                   exact if_pos (Int32.not_le.mp c2710))
                | (have hb : byM rep (iv h 236 k) x (lkM h k A) = _ := if_neg c2699
                   show bMs _ _ k + sgn (byM rep (iv h 236 k) x (lkM h k A)) (iv h (227 + i) k) = _
                   rw [hD, hb]
                   congr 1
                   unfold sgn
                   rw [iv_of g82]
                   exact (if_neg (Int32.not_lt.mpr c2710)).trans (if_pos (Int32.not_le.mp c2712)))
                | (have hb : byM rep (iv h 236 k) x (lkM h k A) = _ := if_neg c2699
                   show bMs _ _ k + sgn (byM rep (iv h 236 k) x (lkM h k A)) (iv h (227 + i) k) = _
                   rw [hD, hb]
                   congr 1
                   unfold sgn
                   exact (if_neg (Int32.not_lt.mpr c2710)).trans (if_neg (Int32.not_lt.mpr c2712)))
                | (have hb : byM rep (iv h 236 k) x (lkM h k A) = _ := (if_pos c2699).trans (if_neg (by rw [iv_of g37]; exact c2705))
                   show bMs _ _ k + sgn (byM rep (iv h 236 k) x (lkM h k A)) (iv h (227 + i) k) = _
                   rw [hD, hb]
                   congr 1
                   unfold sgn
                   rw [iv_of g65]
                   exact if_pos (Int32.not_le.mp c2710))
                | (have hb : byM rep (iv h 236 k) x (lkM h k A) = _ := (if_pos c2699).trans (if_neg (by rw [iv_of g37]; exact c2705))
                   show bMs _ _ k + sgn (byM rep (iv h 236 k) x (lkM h k A)) (iv h (227 + i) k) = _
                   rw [hD, hb]
                   congr 1
                   unfold sgn
                   rw [iv_of g82]
                   exact (if_neg (Int32.not_lt.mpr c2710)).trans (if_pos (Int32.not_le.mp c2712)))
                | (have hb : byM rep (iv h 236 k) x (lkM h k A) = _ := (if_pos c2699).trans (if_neg (by rw [iv_of g37]; exact c2705))
                   show bMs _ _ k + sgn (byM rep (iv h 236 k) x (lkM h k A)) (iv h (227 + i) k) = _
                   rw [hD, hb]
                   congr 1
                   unfold sgn
                   exact (if_neg (Int32.not_lt.mpr c2710)).trans (if_neg (Int32.not_lt.mpr c2712)))
                | (have hb : byM rep (iv h 236 k) x (lkM h k A) = _ := (if_pos c2699).trans (if_pos (by rw [iv_of g37]; exact Decidable.not_not.mp c2705))
                   show bMs _ _ k + sgn (byM rep (iv h 236 k) x (lkM h k A)) (iv h (227 + i) k) = _
                   rw [hD, hb]
                   congr 1
                   unfold sgn
                   rw [iv_of g65]
                   exact if_pos (Int32.not_le.mp c2710))
                | (have hb : byM rep (iv h 236 k) x (lkM h k A) = _ := (if_pos c2699).trans (if_pos (by rw [iv_of g37]; exact Decidable.not_not.mp c2705))
                   show bMs _ _ k + sgn (byM rep (iv h 236 k) x (lkM h k A)) (iv h (227 + i) k) = _
                   rw [hD, hb]
                   congr 1
                   unfold sgn
                   rw [iv_of g82]
                   exact (if_neg (Int32.not_lt.mpr c2710)).trans (if_pos (Int32.not_le.mp c2712)))
                | (have hb : byM rep (iv h 236 k) x (lkM h k A) = _ := (if_pos c2699).trans (if_pos (by rw [iv_of g37]; exact Decidable.not_not.mp c2705))
                   show bMs _ _ k + sgn (byM rep (iv h 236 k) x (lkM h k A)) (iv h (227 + i) k) = _
                   rw [hD, hb]
                   congr 1
                   unfold sgn
                   exact (if_neg (Int32.not_lt.mpr c2710)).trans (if_neg (Int32.not_lt.mpr c2712)))
          · cases e2705
            cases f2705
            have c2705 := ndc q2705
            refine zSp0 (pc' := 43) (st' := .int (1) :: _) vr_168_42 rfl rfl ?_
            refine zSgo (t := 48) vr_168_43 rfl rfl ?_
            refine zSistore (m := 2) (k := 7) vr_168_48 rfl rfl (fun x2743 e2743 => ?_)
            cases e2743
            show zL zrx zi _ 168 50 [(7, _), (6, _), (5, _), (4, _), (0, _), (1, _), (2, _), (3, _)] [] _ _ _
            refine zSiload (m := 2) (k := 4) vr_168_50 rfl rfl rfl (fun x2744 e2744 => ?_)
            cases e2744
            refine zSiload (m := 2) (k := 7) vr_168_52 rfl rfl rfl (fun x2745 e2745 => ?_)
            cases e2745
            refine zSb1 (f := fun x => decide (x ≤ 0)) (off := 15) (t := 69) vr_168_54 rfl rfl rfl (fun x2746 e2746 q2746 => ?_) (fun x2746 e2746 q2746 => ?_)
            · cases e2746
              have c2746 := of_decide_eq_true q2746
              refine zSiload (m := 2) (k := 7) vr_168_69 rfl rfl rfl (fun x2747 e2747 => ?_)
              cases e2747
              refine zSb1 (f := fun x => decide (0 ≤ x)) (off := 16) (t := 87) vr_168_71 rfl rfl rfl (fun x2748 e2748 q2748 => ?_) (fun x2748 e2748 q2748 => ?_)
              · cases e2748
                have c2748 := of_decide_eq_true q2748
                refine zSp0 (pc' := 88) (st' := .int (0) :: _) vr_168_87 rfl rfl ?_
                refine zS2 (f := fun x y => .int (x + y)) vr_168_88 rfl rfl (fun x2750 y2750 e2750 f2750 => ?_)
                cases e2750
                cases f2750
                refine zSistore (m := 2) (k := 4) vr_168_89 rfl rfl (fun x2751 e2751 => ?_)
                cases e2751
                show zL zrx zi _ 168 91 [(4, _), (7, _), (6, _), (5, _), (0, _), (1, _), (2, _), (3, _)] [] _ _ _
                refine zSiinc vr_168_91 rfl rfl (fun x2752 e2752 => ?_)
                cases e2752
                show zL zrx zi _ 168 94 [(5, _), (4, _), (7, _), (6, _), (0, _), (1, _), (2, _), (3, _)] [] _ _ _
                refine zSgo (t := 6) vr_168_94 rfl rfl ?_
                rw [ofNat_succ]
                refine zL_pm _ _ _ [(5, _), (4, _), (0, _), (1, _), (2, _), (3, _), (6, _), (7, _)] _ _ _ _ _ ⟨(List.forall_mem_cons.mpr ⟨List.mem_cons_self, (List.forall_mem_cons.mpr ⟨(List.mem_cons_of_mem _ List.mem_cons_self), (List.forall_mem_cons.mpr ⟨(List.mem_cons_of_mem _ (List.mem_cons_of_mem _ (List.mem_cons_of_mem _ (List.mem_cons_of_mem _ (List.mem_cons_of_mem _ (List.mem_cons_of_mem _ (List.mem_cons_of_mem _ List.mem_cons_self))))))), (List.forall_mem_cons.mpr ⟨(List.mem_cons_of_mem _ (List.mem_cons_of_mem _ (List.mem_cons_of_mem _ (List.mem_cons_of_mem _ (List.mem_cons_of_mem _ (List.mem_cons_of_mem _ List.mem_cons_self)))))), (List.forall_mem_cons.mpr ⟨(List.mem_cons_of_mem _ (List.mem_cons_of_mem _ List.mem_cons_self)), (List.forall_mem_cons.mpr ⟨(List.mem_cons_of_mem _ (List.mem_cons_of_mem _ (List.mem_cons_of_mem _ List.mem_cons_self))), (List.forall_mem_cons.mpr ⟨(List.mem_cons_of_mem _ (List.mem_cons_of_mem _ (List.mem_cons_of_mem _ (List.mem_cons_of_mem _ List.mem_cons_self)))), (List.forall_mem_cons.mpr ⟨(List.mem_cons_of_mem _ (List.mem_cons_of_mem _ (List.mem_cons_of_mem _ (List.mem_cons_of_mem _ (List.mem_cons_of_mem _ List.mem_cons_self))))), (fun _ h => absurd h List.not_mem_nil)⟩)⟩)⟩)⟩)⟩)⟩)⟩)⟩), show ([5, 4, 0, 1, 2, 3, 6, 7] : List Nat).Nodup by decide⟩ (C_mar_loop hi i3 hS hL hs hq n (k + 1) _ _ _ _ (by omega) ?_)
                first
                  | (have hb : byM rep (iv h 236 k) x (lkM h k A) = _ := if_neg c2699
                     show bMs _ _ k + sgn (byM rep (iv h 236 k) x (lkM h k A)) (iv h (227 + i) k) = _
                     rw [hD, hb]
                     congr 1
                     unfold sgn
                     rw [iv_of g65]
                     exact if_pos (Int32.not_le.mp c2746))
                  | (have hb : byM rep (iv h 236 k) x (lkM h k A) = _ := if_neg c2699
                     show bMs _ _ k + sgn (byM rep (iv h 236 k) x (lkM h k A)) (iv h (227 + i) k) = _
                     rw [hD, hb]
                     congr 1
                     unfold sgn
                     rw [iv_of g82]
                     exact (if_neg (Int32.not_lt.mpr c2746)).trans (if_pos (Int32.not_le.mp c2748)))
                  | (have hb : byM rep (iv h 236 k) x (lkM h k A) = _ := if_neg c2699
                     show bMs _ _ k + sgn (byM rep (iv h 236 k) x (lkM h k A)) (iv h (227 + i) k) = _
                     rw [hD, hb]
                     congr 1
                     unfold sgn
                     exact (if_neg (Int32.not_lt.mpr c2746)).trans (if_neg (Int32.not_lt.mpr c2748)))
                  | (have hb : byM rep (iv h 236 k) x (lkM h k A) = _ := (if_pos c2699).trans (if_neg (by rw [iv_of g37]; exact c2705))
                     show bMs _ _ k + sgn (byM rep (iv h 236 k) x (lkM h k A)) (iv h (227 + i) k) = _
                     rw [hD, hb]
                     congr 1
                     unfold sgn
                     rw [iv_of g65]
                     exact if_pos (Int32.not_le.mp c2746))
                  | (have hb : byM rep (iv h 236 k) x (lkM h k A) = _ := (if_pos c2699).trans (if_neg (by rw [iv_of g37]; exact c2705))
                     show bMs _ _ k + sgn (byM rep (iv h 236 k) x (lkM h k A)) (iv h (227 + i) k) = _
                     rw [hD, hb]
                     congr 1
                     unfold sgn
                     rw [iv_of g82]
                     exact (if_neg (Int32.not_lt.mpr c2746)).trans (if_pos (Int32.not_le.mp c2748)))
                  | (have hb : byM rep (iv h 236 k) x (lkM h k A) = _ := (if_pos c2699).trans (if_neg (by rw [iv_of g37]; exact c2705))
                     show bMs _ _ k + sgn (byM rep (iv h 236 k) x (lkM h k A)) (iv h (227 + i) k) = _
                     rw [hD, hb]
                     congr 1
                     unfold sgn
                     exact (if_neg (Int32.not_lt.mpr c2746)).trans (if_neg (Int32.not_lt.mpr c2748)))
                  | (have hb : byM rep (iv h 236 k) x (lkM h k A) = _ := (if_pos c2699).trans (if_pos (by rw [iv_of g37]; exact Decidable.not_not.mp c2705))
                     show bMs _ _ k + sgn (byM rep (iv h 236 k) x (lkM h k A)) (iv h (227 + i) k) = _
                     rw [hD, hb]
                     congr 1
                     unfold sgn
                     rw [iv_of g65]
                     exact if_pos (Int32.not_le.mp c2746))
                  | (have hb : byM rep (iv h 236 k) x (lkM h k A) = _ := (if_pos c2699).trans (if_pos (by rw [iv_of g37]; exact Decidable.not_not.mp c2705))
                     show bMs _ _ k + sgn (byM rep (iv h 236 k) x (lkM h k A)) (iv h (227 + i) k) = _
                     rw [hD, hb]
                     congr 1
                     unfold sgn
                     rw [iv_of g82]
                     exact (if_neg (Int32.not_lt.mpr c2746)).trans (if_pos (Int32.not_le.mp c2748)))
                  | (have hb : byM rep (iv h 236 k) x (lkM h k A) = _ := (if_pos c2699).trans (if_pos (by rw [iv_of g37]; exact Decidable.not_not.mp c2705))
                     show bMs _ _ k + sgn (byM rep (iv h 236 k) x (lkM h k A)) (iv h (227 + i) k) = _
                     rw [hD, hb]
                     congr 1
                     unfold sgn
                     exact (if_neg (Int32.not_lt.mpr c2746)).trans (if_neg (Int32.not_lt.mpr c2748)))
              · cases e2748
                have c2748 := ndc q2748
                refine zSaload (m := 1) (k := 0) vr_168_74 rfl rfl rfl ?_
                refine zLget vr_168_75 rfl (fun p2755 w2755 e2755 t2755 g2755 => ?_)
                cases e2755
                first | (rw [(st_213_11 hS)] at g2755; cases g2755) | (rw [(st_213_14 hS)] at g2755; cases g2755) | (rw [hH] at g2755; cases g2755) | skip
                refine zSiload (m := 1) (k := 2) vr_168_78 rfl rfl rfl (fun x2756 e2756 => ?_)
                cases e2756
                refine zLaald vr_168_79 rfl (fun p2757 x2757 w2757 e2757 f2757 c2757 t2757 g2757 => ?_)
                cases e2757
                cases f2757
                first | (rw [(st_213_11 hS)] at g2757; cases g2757) | (rw [(st_213_14 hS)] at g2757; cases g2757) | (rw [hH] at g2757; cases g2757) | skip
                refine zSiload (m := 2) (k := 5) vr_168_80 rfl rfl rfl (fun x2758 e2758 => ?_)
                cases e2758
                refine zLiald vr_168_82 rfl (fun p2759 x2759 w2759 e2759 f2759 c2759 t2759 g2759 => ?_)
                cases e2759
                cases f2759
                first | (rw [(st_213_11 hS)] at g2759; cases g2759) | (rw [(st_213_14 hS)] at g2759; cases g2759) | (rw [hH] at g2759; cases g2759) | skip
                have g82 := g2759
                rw [kk.1] at g82
                refine zS1 (f := fun x => .int (-x)) vr_168_83 rfl rfl (fun x2760 e2760 => ?_)
                cases e2760
                refine zSgo (t := 88) vr_168_84 rfl rfl ?_
                refine zS2 (f := fun x y => .int (x + y)) vr_168_88 rfl rfl (fun x2762 y2762 e2762 f2762 => ?_)
                cases e2762
                cases f2762
                refine zSistore (m := 2) (k := 4) vr_168_89 rfl rfl (fun x2763 e2763 => ?_)
                cases e2763
                show zL zrx zi _ 168 91 [(4, _), (7, _), (6, _), (5, _), (0, _), (1, _), (2, _), (3, _)] [] _ _ _
                refine zSiinc vr_168_91 rfl rfl (fun x2764 e2764 => ?_)
                cases e2764
                show zL zrx zi _ 168 94 [(5, _), (4, _), (7, _), (6, _), (0, _), (1, _), (2, _), (3, _)] [] _ _ _
                refine zSgo (t := 6) vr_168_94 rfl rfl ?_
                rw [ofNat_succ]
                refine zL_pm _ _ _ [(5, _), (4, _), (0, _), (1, _), (2, _), (3, _), (6, _), (7, _)] _ _ _ _ _ ⟨(List.forall_mem_cons.mpr ⟨List.mem_cons_self, (List.forall_mem_cons.mpr ⟨(List.mem_cons_of_mem _ List.mem_cons_self), (List.forall_mem_cons.mpr ⟨(List.mem_cons_of_mem _ (List.mem_cons_of_mem _ (List.mem_cons_of_mem _ (List.mem_cons_of_mem _ (List.mem_cons_of_mem _ (List.mem_cons_of_mem _ (List.mem_cons_of_mem _ List.mem_cons_self))))))), (List.forall_mem_cons.mpr ⟨(List.mem_cons_of_mem _ (List.mem_cons_of_mem _ (List.mem_cons_of_mem _ (List.mem_cons_of_mem _ (List.mem_cons_of_mem _ (List.mem_cons_of_mem _ List.mem_cons_self)))))), (List.forall_mem_cons.mpr ⟨(List.mem_cons_of_mem _ (List.mem_cons_of_mem _ List.mem_cons_self)), (List.forall_mem_cons.mpr ⟨(List.mem_cons_of_mem _ (List.mem_cons_of_mem _ (List.mem_cons_of_mem _ List.mem_cons_self))), (List.forall_mem_cons.mpr ⟨(List.mem_cons_of_mem _ (List.mem_cons_of_mem _ (List.mem_cons_of_mem _ (List.mem_cons_of_mem _ List.mem_cons_self)))), (List.forall_mem_cons.mpr ⟨(List.mem_cons_of_mem _ (List.mem_cons_of_mem _ (List.mem_cons_of_mem _ (List.mem_cons_of_mem _ (List.mem_cons_of_mem _ List.mem_cons_self))))), (fun _ h => absurd h List.not_mem_nil)⟩)⟩)⟩)⟩)⟩)⟩)⟩)⟩), show ([5, 4, 0, 1, 2, 3, 6, 7] : List Nat).Nodup by decide⟩ (C_mar_loop hi i3 hS hL hs hq n (k + 1) _ _ _ _ (by omega) ?_)
                first
                  | (have hb : byM rep (iv h 236 k) x (lkM h k A) = _ := if_neg c2699
                     show bMs _ _ k + sgn (byM rep (iv h 236 k) x (lkM h k A)) (iv h (227 + i) k) = _
                     rw [hD, hb]
                     congr 1
                     unfold sgn
                     rw [iv_of g65]
                     exact if_pos (Int32.not_le.mp c2746))
                  | (have hb : byM rep (iv h 236 k) x (lkM h k A) = _ := if_neg c2699
                     show bMs _ _ k + sgn (byM rep (iv h 236 k) x (lkM h k A)) (iv h (227 + i) k) = _
                     rw [hD, hb]
                     congr 1
                     unfold sgn
                     rw [iv_of g82]
                     exact (if_neg (Int32.not_lt.mpr c2746)).trans (if_pos (Int32.not_le.mp c2748)))
                  | (have hb : byM rep (iv h 236 k) x (lkM h k A) = _ := if_neg c2699
                     show bMs _ _ k + sgn (byM rep (iv h 236 k) x (lkM h k A)) (iv h (227 + i) k) = _
                     rw [hD, hb]
                     congr 1
                     unfold sgn
                     exact (if_neg (Int32.not_lt.mpr c2746)).trans (if_neg (Int32.not_lt.mpr c2748)))
                  | (have hb : byM rep (iv h 236 k) x (lkM h k A) = _ := (if_pos c2699).trans (if_neg (by rw [iv_of g37]; exact c2705))
                     show bMs _ _ k + sgn (byM rep (iv h 236 k) x (lkM h k A)) (iv h (227 + i) k) = _
                     rw [hD, hb]
                     congr 1
                     unfold sgn
                     rw [iv_of g65]
                     exact if_pos (Int32.not_le.mp c2746))
                  | (have hb : byM rep (iv h 236 k) x (lkM h k A) = _ := (if_pos c2699).trans (if_neg (by rw [iv_of g37]; exact c2705))
                     show bMs _ _ k + sgn (byM rep (iv h 236 k) x (lkM h k A)) (iv h (227 + i) k) = _
                     rw [hD, hb]
                     congr 1
                     unfold sgn
                     rw [iv_of g82]
                     exact (if_neg (Int32.not_lt.mpr c2746)).trans (if_pos (Int32.not_le.mp c2748)))
                  | (have hb : byM rep (iv h 236 k) x (lkM h k A) = _ := (if_pos c2699).trans (if_neg (by rw [iv_of g37]; exact c2705))
                     show bMs _ _ k + sgn (byM rep (iv h 236 k) x (lkM h k A)) (iv h (227 + i) k) = _
                     rw [hD, hb]
                     congr 1
                     unfold sgn
                     exact (if_neg (Int32.not_lt.mpr c2746)).trans (if_neg (Int32.not_lt.mpr c2748)))
                  | (have hb : byM rep (iv h 236 k) x (lkM h k A) = _ := (if_pos c2699).trans (if_pos (by rw [iv_of g37]; exact Decidable.not_not.mp c2705))
                     show bMs _ _ k + sgn (byM rep (iv h 236 k) x (lkM h k A)) (iv h (227 + i) k) = _
                     rw [hD, hb]
                     congr 1
                     unfold sgn
                     rw [iv_of g65]
                     exact if_pos (Int32.not_le.mp c2746))
                  | (have hb : byM rep (iv h 236 k) x (lkM h k A) = _ := (if_pos c2699).trans (if_pos (by rw [iv_of g37]; exact Decidable.not_not.mp c2705))
                     show bMs _ _ k + sgn (byM rep (iv h 236 k) x (lkM h k A)) (iv h (227 + i) k) = _
                     rw [hD, hb]
                     congr 1
                     unfold sgn
                     rw [iv_of g82]
                     exact (if_neg (Int32.not_lt.mpr c2746)).trans (if_pos (Int32.not_le.mp c2748)))
                  | (have hb : byM rep (iv h 236 k) x (lkM h k A) = _ := (if_pos c2699).trans (if_pos (by rw [iv_of g37]; exact Decidable.not_not.mp c2705))
                     show bMs _ _ k + sgn (byM rep (iv h 236 k) x (lkM h k A)) (iv h (227 + i) k) = _
                     rw [hD, hb]
                     congr 1
                     unfold sgn
                     exact (if_neg (Int32.not_lt.mpr c2746)).trans (if_neg (Int32.not_lt.mpr c2748)))
            · cases e2746
              have c2746 := ndc q2746
              refine zSaload (m := 1) (k := 0) vr_168_57 rfl rfl rfl ?_
              refine zLget vr_168_58 rfl (fun p2767 w2767 e2767 t2767 g2767 => ?_)
              cases e2767
              first | (rw [(st_213_11 hS)] at g2767; cases g2767) | (rw [(st_213_14 hS)] at g2767; cases g2767) | (rw [hH] at g2767; cases g2767) | skip
              refine zSiload (m := 1) (k := 2) vr_168_61 rfl rfl rfl (fun x2768 e2768 => ?_)
              cases e2768
              refine zLaald vr_168_62 rfl (fun p2769 x2769 w2769 e2769 f2769 c2769 t2769 g2769 => ?_)
              cases e2769
              cases f2769
              first | (rw [(st_213_11 hS)] at g2769; cases g2769) | (rw [(st_213_14 hS)] at g2769; cases g2769) | (rw [hH] at g2769; cases g2769) | skip
              refine zSiload (m := 2) (k := 5) vr_168_63 rfl rfl rfl (fun x2770 e2770 => ?_)
              cases e2770
              refine zLiald vr_168_65 rfl (fun p2771 x2771 w2771 e2771 f2771 c2771 t2771 g2771 => ?_)
              cases e2771
              cases f2771
              first | (rw [(st_213_11 hS)] at g2771; cases g2771) | (rw [(st_213_14 hS)] at g2771; cases g2771) | (rw [hH] at g2771; cases g2771) | skip
              have g65 := g2771
              rw [kk.1] at g65
              refine zSgo (t := 88) vr_168_66 rfl rfl ?_
              refine zS2 (f := fun x y => .int (x + y)) vr_168_88 rfl rfl (fun x2773 y2773 e2773 f2773 => ?_)
              cases e2773
              cases f2773
              refine zSistore (m := 2) (k := 4) vr_168_89 rfl rfl (fun x2774 e2774 => ?_)
              cases e2774
              show zL zrx zi _ 168 91 [(4, _), (7, _), (6, _), (5, _), (0, _), (1, _), (2, _), (3, _)] [] _ _ _
              refine zSiinc vr_168_91 rfl rfl (fun x2775 e2775 => ?_)
              cases e2775
              show zL zrx zi _ 168 94 [(5, _), (4, _), (7, _), (6, _), (0, _), (1, _), (2, _), (3, _)] [] _ _ _
              refine zSgo (t := 6) vr_168_94 rfl rfl ?_
              rw [ofNat_succ]
              refine zL_pm _ _ _ [(5, _), (4, _), (0, _), (1, _), (2, _), (3, _), (6, _), (7, _)] _ _ _ _ _ ⟨(List.forall_mem_cons.mpr ⟨List.mem_cons_self, (List.forall_mem_cons.mpr ⟨(List.mem_cons_of_mem _ List.mem_cons_self), (List.forall_mem_cons.mpr ⟨(List.mem_cons_of_mem _ (List.mem_cons_of_mem _ (List.mem_cons_of_mem _ (List.mem_cons_of_mem _ (List.mem_cons_of_mem _ (List.mem_cons_of_mem _ (List.mem_cons_of_mem _ List.mem_cons_self))))))), (List.forall_mem_cons.mpr ⟨(List.mem_cons_of_mem _ (List.mem_cons_of_mem _ (List.mem_cons_of_mem _ (List.mem_cons_of_mem _ (List.mem_cons_of_mem _ (List.mem_cons_of_mem _ List.mem_cons_self)))))), (List.forall_mem_cons.mpr ⟨(List.mem_cons_of_mem _ (List.mem_cons_of_mem _ List.mem_cons_self)), (List.forall_mem_cons.mpr ⟨(List.mem_cons_of_mem _ (List.mem_cons_of_mem _ (List.mem_cons_of_mem _ List.mem_cons_self))), (List.forall_mem_cons.mpr ⟨(List.mem_cons_of_mem _ (List.mem_cons_of_mem _ (List.mem_cons_of_mem _ (List.mem_cons_of_mem _ List.mem_cons_self)))), (List.forall_mem_cons.mpr ⟨(List.mem_cons_of_mem _ (List.mem_cons_of_mem _ (List.mem_cons_of_mem _ (List.mem_cons_of_mem _ (List.mem_cons_of_mem _ List.mem_cons_self))))), (fun _ h => absurd h List.not_mem_nil)⟩)⟩)⟩)⟩)⟩)⟩)⟩)⟩), show ([5, 4, 0, 1, 2, 3, 6, 7] : List Nat).Nodup by decide⟩ (C_mar_loop hi i3 hS hL hs hq n (k + 1) _ _ _ _ (by omega) ?_)
              first
                | (have hb : byM rep (iv h 236 k) x (lkM h k A) = _ := if_neg c2699
                   show bMs _ _ k + sgn (byM rep (iv h 236 k) x (lkM h k A)) (iv h (227 + i) k) = _
                   rw [hD, hb]
                   congr 1
                   unfold sgn
                   rw [iv_of g65]
                   exact if_pos (Int32.not_le.mp c2746))
                | (have hb : byM rep (iv h 236 k) x (lkM h k A) = _ := if_neg c2699
                   show bMs _ _ k + sgn (byM rep (iv h 236 k) x (lkM h k A)) (iv h (227 + i) k) = _
                   rw [hD, hb]
                   congr 1
                   unfold sgn
                   rw [iv_of g82]
                   exact (if_neg (Int32.not_lt.mpr c2746)).trans (if_pos (Int32.not_le.mp c2748)))
                | (have hb : byM rep (iv h 236 k) x (lkM h k A) = _ := if_neg c2699
                   show bMs _ _ k + sgn (byM rep (iv h 236 k) x (lkM h k A)) (iv h (227 + i) k) = _
                   rw [hD, hb]
                   congr 1
                   unfold sgn
                   exact (if_neg (Int32.not_lt.mpr c2746)).trans (if_neg (Int32.not_lt.mpr c2748)))
                | (have hb : byM rep (iv h 236 k) x (lkM h k A) = _ := (if_pos c2699).trans (if_neg (by rw [iv_of g37]; exact c2705))
                   show bMs _ _ k + sgn (byM rep (iv h 236 k) x (lkM h k A)) (iv h (227 + i) k) = _
                   rw [hD, hb]
                   congr 1
                   unfold sgn
                   rw [iv_of g65]
                   exact if_pos (Int32.not_le.mp c2746))
                | (have hb : byM rep (iv h 236 k) x (lkM h k A) = _ := (if_pos c2699).trans (if_neg (by rw [iv_of g37]; exact c2705))
                   show bMs _ _ k + sgn (byM rep (iv h 236 k) x (lkM h k A)) (iv h (227 + i) k) = _
                   rw [hD, hb]
                   congr 1
                   unfold sgn
                   rw [iv_of g82]
                   exact (if_neg (Int32.not_lt.mpr c2746)).trans (if_pos (Int32.not_le.mp c2748)))
                | (have hb : byM rep (iv h 236 k) x (lkM h k A) = _ := (if_pos c2699).trans (if_neg (by rw [iv_of g37]; exact c2705))
                   show bMs _ _ k + sgn (byM rep (iv h 236 k) x (lkM h k A)) (iv h (227 + i) k) = _
                   rw [hD, hb]
                   congr 1
                   unfold sgn
                   exact (if_neg (Int32.not_lt.mpr c2746)).trans (if_neg (Int32.not_lt.mpr c2748)))
                | (have hb : byM rep (iv h 236 k) x (lkM h k A) = _ := (if_pos c2699).trans (if_pos (by rw [iv_of g37]; exact Decidable.not_not.mp c2705))
                   show bMs _ _ k + sgn (byM rep (iv h 236 k) x (lkM h k A)) (iv h (227 + i) k) = _
                   rw [hD, hb]
                   congr 1
                   unfold sgn
                   rw [iv_of g65]
                   exact if_pos (Int32.not_le.mp c2746))
                | (have hb : byM rep (iv h 236 k) x (lkM h k A) = _ := (if_pos c2699).trans (if_pos (by rw [iv_of g37]; exact Decidable.not_not.mp c2705))
                   show bMs _ _ k + sgn (byM rep (iv h 236 k) x (lkM h k A)) (iv h (227 + i) k) = _
                   rw [hD, hb]
                   congr 1
                   unfold sgn
                   rw [iv_of g82]
                   exact (if_neg (Int32.not_lt.mpr c2746)).trans (if_pos (Int32.not_le.mp c2748)))
                | (have hb : byM rep (iv h 236 k) x (lkM h k A) = _ := (if_pos c2699).trans (if_pos (by rw [iv_of g37]; exact Decidable.not_not.mp c2705))
                   show bMs _ _ k + sgn (byM rep (iv h 236 k) x (lkM h k A)) (iv h (227 + i) k) = _
                   rw [hD, hb]
                   congr 1
                   unfold sgn
                   exact (if_neg (Int32.not_lt.mpr c2746)).trans (if_neg (Int32.not_lt.mpr c2748)))
        · cases e2699
          have c2699 := ndc q2699
          refine zSiload (m := 2) (k := 6) vr_168_25 rfl rfl rfl (fun x2777 e2777 => ?_)
          cases e2777
          refine zS1 (f := fun x => .int (-x)) vr_168_27 rfl rfl (fun x2778 e2778 => ?_)
          cases e2778
          refine zSgo (t := 48) vr_168_28 rfl rfl ?_
          refine zSistore (m := 2) (k := 7) vr_168_48 rfl rfl (fun x2780 e2780 => ?_)
          cases e2780
          show zL zrx zi _ 168 50 [(7, _), (6, _), (5, _), (4, _), (0, _), (1, _), (2, _), (3, _)] [] _ _ _
          refine zSiload (m := 2) (k := 4) vr_168_50 rfl rfl rfl (fun x2781 e2781 => ?_)
          cases e2781
          refine zSiload (m := 2) (k := 7) vr_168_52 rfl rfl rfl (fun x2782 e2782 => ?_)
          cases e2782
          refine zSb1 (f := fun x => decide (x ≤ 0)) (off := 15) (t := 69) vr_168_54 rfl rfl rfl (fun x2783 e2783 q2783 => ?_) (fun x2783 e2783 q2783 => ?_)
          · cases e2783
            have c2783 := of_decide_eq_true q2783
            refine zSiload (m := 2) (k := 7) vr_168_69 rfl rfl rfl (fun x2784 e2784 => ?_)
            cases e2784
            refine zSb1 (f := fun x => decide (0 ≤ x)) (off := 16) (t := 87) vr_168_71 rfl rfl rfl (fun x2785 e2785 q2785 => ?_) (fun x2785 e2785 q2785 => ?_)
            · cases e2785
              have c2785 := of_decide_eq_true q2785
              refine zSp0 (pc' := 88) (st' := .int (0) :: _) vr_168_87 rfl rfl ?_
              refine zS2 (f := fun x y => .int (x + y)) vr_168_88 rfl rfl (fun x2787 y2787 e2787 f2787 => ?_)
              cases e2787
              cases f2787
              refine zSistore (m := 2) (k := 4) vr_168_89 rfl rfl (fun x2788 e2788 => ?_)
              cases e2788
              show zL zrx zi _ 168 91 [(4, _), (7, _), (6, _), (5, _), (0, _), (1, _), (2, _), (3, _)] [] _ _ _
              refine zSiinc vr_168_91 rfl rfl (fun x2789 e2789 => ?_)
              cases e2789
              show zL zrx zi _ 168 94 [(5, _), (4, _), (7, _), (6, _), (0, _), (1, _), (2, _), (3, _)] [] _ _ _
              refine zSgo (t := 6) vr_168_94 rfl rfl ?_
              rw [ofNat_succ]
              refine zL_pm _ _ _ [(5, _), (4, _), (0, _), (1, _), (2, _), (3, _), (6, _), (7, _)] _ _ _ _ _ ⟨(List.forall_mem_cons.mpr ⟨List.mem_cons_self, (List.forall_mem_cons.mpr ⟨(List.mem_cons_of_mem _ List.mem_cons_self), (List.forall_mem_cons.mpr ⟨(List.mem_cons_of_mem _ (List.mem_cons_of_mem _ (List.mem_cons_of_mem _ (List.mem_cons_of_mem _ (List.mem_cons_of_mem _ (List.mem_cons_of_mem _ (List.mem_cons_of_mem _ List.mem_cons_self))))))), (List.forall_mem_cons.mpr ⟨(List.mem_cons_of_mem _ (List.mem_cons_of_mem _ (List.mem_cons_of_mem _ (List.mem_cons_of_mem _ (List.mem_cons_of_mem _ (List.mem_cons_of_mem _ List.mem_cons_self)))))), (List.forall_mem_cons.mpr ⟨(List.mem_cons_of_mem _ (List.mem_cons_of_mem _ List.mem_cons_self)), (List.forall_mem_cons.mpr ⟨(List.mem_cons_of_mem _ (List.mem_cons_of_mem _ (List.mem_cons_of_mem _ List.mem_cons_self))), (List.forall_mem_cons.mpr ⟨(List.mem_cons_of_mem _ (List.mem_cons_of_mem _ (List.mem_cons_of_mem _ (List.mem_cons_of_mem _ List.mem_cons_self)))), (List.forall_mem_cons.mpr ⟨(List.mem_cons_of_mem _ (List.mem_cons_of_mem _ (List.mem_cons_of_mem _ (List.mem_cons_of_mem _ (List.mem_cons_of_mem _ List.mem_cons_self))))), (fun _ h => absurd h List.not_mem_nil)⟩)⟩)⟩)⟩)⟩)⟩)⟩)⟩), show ([5, 4, 0, 1, 2, 3, 6, 7] : List Nat).Nodup by decide⟩ (C_mar_loop hi i3 hS hL hs hq n (k + 1) _ _ _ _ (by omega) ?_)
              first
                | (have hb : byM rep (iv h 236 k) x (lkM h k A) = _ := if_neg c2699
                   show bMs _ _ k + sgn (byM rep (iv h 236 k) x (lkM h k A)) (iv h (227 + i) k) = _
                   rw [hD, hb]
                   congr 1
                   unfold sgn
                   rw [iv_of g65]
                   exact if_pos (Int32.not_le.mp c2783))
                | (have hb : byM rep (iv h 236 k) x (lkM h k A) = _ := if_neg c2699
                   show bMs _ _ k + sgn (byM rep (iv h 236 k) x (lkM h k A)) (iv h (227 + i) k) = _
                   rw [hD, hb]
                   congr 1
                   unfold sgn
                   rw [iv_of g82]
                   exact (if_neg (Int32.not_lt.mpr c2783)).trans (if_pos (Int32.not_le.mp c2785)))
                | (have hb : byM rep (iv h 236 k) x (lkM h k A) = _ := if_neg c2699
                   show bMs _ _ k + sgn (byM rep (iv h 236 k) x (lkM h k A)) (iv h (227 + i) k) = _
                   rw [hD, hb]
                   congr 1
                   unfold sgn
                   exact (if_neg (Int32.not_lt.mpr c2783)).trans (if_neg (Int32.not_lt.mpr c2785)))
                | (have hb : byM rep (iv h 236 k) x (lkM h k A) = _ := (if_pos c2699).trans (if_neg (by rw [iv_of g37]; exact c2705))
                   show bMs _ _ k + sgn (byM rep (iv h 236 k) x (lkM h k A)) (iv h (227 + i) k) = _
                   rw [hD, hb]
                   congr 1
                   unfold sgn
                   rw [iv_of g65]
                   exact if_pos (Int32.not_le.mp c2783))
                | (have hb : byM rep (iv h 236 k) x (lkM h k A) = _ := (if_pos c2699).trans (if_neg (by rw [iv_of g37]; exact c2705))
                   show bMs _ _ k + sgn (byM rep (iv h 236 k) x (lkM h k A)) (iv h (227 + i) k) = _
                   rw [hD, hb]
                   congr 1
                   unfold sgn
                   rw [iv_of g82]
                   exact (if_neg (Int32.not_lt.mpr c2783)).trans (if_pos (Int32.not_le.mp c2785)))
                | (have hb : byM rep (iv h 236 k) x (lkM h k A) = _ := (if_pos c2699).trans (if_neg (by rw [iv_of g37]; exact c2705))
                   show bMs _ _ k + sgn (byM rep (iv h 236 k) x (lkM h k A)) (iv h (227 + i) k) = _
                   rw [hD, hb]
                   congr 1
                   unfold sgn
                   exact (if_neg (Int32.not_lt.mpr c2783)).trans (if_neg (Int32.not_lt.mpr c2785)))
                | (have hb : byM rep (iv h 236 k) x (lkM h k A) = _ := (if_pos c2699).trans (if_pos (by rw [iv_of g37]; exact Decidable.not_not.mp c2705))
                   show bMs _ _ k + sgn (byM rep (iv h 236 k) x (lkM h k A)) (iv h (227 + i) k) = _
                   rw [hD, hb]
                   congr 1
                   unfold sgn
                   rw [iv_of g65]
                   exact if_pos (Int32.not_le.mp c2783))
                | (have hb : byM rep (iv h 236 k) x (lkM h k A) = _ := (if_pos c2699).trans (if_pos (by rw [iv_of g37]; exact Decidable.not_not.mp c2705))
                   show bMs _ _ k + sgn (byM rep (iv h 236 k) x (lkM h k A)) (iv h (227 + i) k) = _
                   rw [hD, hb]
                   congr 1
                   unfold sgn
                   rw [iv_of g82]
                   exact (if_neg (Int32.not_lt.mpr c2783)).trans (if_pos (Int32.not_le.mp c2785)))
                | (have hb : byM rep (iv h 236 k) x (lkM h k A) = _ := (if_pos c2699).trans (if_pos (by rw [iv_of g37]; exact Decidable.not_not.mp c2705))
                   show bMs _ _ k + sgn (byM rep (iv h 236 k) x (lkM h k A)) (iv h (227 + i) k) = _
                   rw [hD, hb]
                   congr 1
                   unfold sgn
                   exact (if_neg (Int32.not_lt.mpr c2783)).trans (if_neg (Int32.not_lt.mpr c2785)))
            · cases e2785
              have c2785 := ndc q2785
              refine zSaload (m := 1) (k := 0) vr_168_74 rfl rfl rfl ?_
              refine zLget vr_168_75 rfl (fun p2792 w2792 e2792 t2792 g2792 => ?_)
              cases e2792
              first | (rw [(st_213_11 hS)] at g2792; cases g2792) | (rw [(st_213_14 hS)] at g2792; cases g2792) | (rw [hH] at g2792; cases g2792) | skip
              refine zSiload (m := 1) (k := 2) vr_168_78 rfl rfl rfl (fun x2793 e2793 => ?_)
              cases e2793
              refine zLaald vr_168_79 rfl (fun p2794 x2794 w2794 e2794 f2794 c2794 t2794 g2794 => ?_)
              cases e2794
              cases f2794
              first | (rw [(st_213_11 hS)] at g2794; cases g2794) | (rw [(st_213_14 hS)] at g2794; cases g2794) | (rw [hH] at g2794; cases g2794) | skip
              refine zSiload (m := 2) (k := 5) vr_168_80 rfl rfl rfl (fun x2795 e2795 => ?_)
              cases e2795
              refine zLiald vr_168_82 rfl (fun p2796 x2796 w2796 e2796 f2796 c2796 t2796 g2796 => ?_)
              cases e2796
              cases f2796
              first | (rw [(st_213_11 hS)] at g2796; cases g2796) | (rw [(st_213_14 hS)] at g2796; cases g2796) | (rw [hH] at g2796; cases g2796) | skip
              have g82 := g2796
              rw [kk.1] at g82
              refine zS1 (f := fun x => .int (-x)) vr_168_83 rfl rfl (fun x2797 e2797 => ?_)
              cases e2797
              refine zSgo (t := 88) vr_168_84 rfl rfl ?_
              refine zS2 (f := fun x y => .int (x + y)) vr_168_88 rfl rfl (fun x2799 y2799 e2799 f2799 => ?_)
              cases e2799
              cases f2799
              refine zSistore (m := 2) (k := 4) vr_168_89 rfl rfl (fun x2800 e2800 => ?_)
              cases e2800
              show zL zrx zi _ 168 91 [(4, _), (7, _), (6, _), (5, _), (0, _), (1, _), (2, _), (3, _)] [] _ _ _
              refine zSiinc vr_168_91 rfl rfl (fun x2801 e2801 => ?_)
              cases e2801
              show zL zrx zi _ 168 94 [(5, _), (4, _), (7, _), (6, _), (0, _), (1, _), (2, _), (3, _)] [] _ _ _
              refine zSgo (t := 6) vr_168_94 rfl rfl ?_
              rw [ofNat_succ]
              refine zL_pm _ _ _ [(5, _), (4, _), (0, _), (1, _), (2, _), (3, _), (6, _), (7, _)] _ _ _ _ _ ⟨(List.forall_mem_cons.mpr ⟨List.mem_cons_self, (List.forall_mem_cons.mpr ⟨(List.mem_cons_of_mem _ List.mem_cons_self), (List.forall_mem_cons.mpr ⟨(List.mem_cons_of_mem _ (List.mem_cons_of_mem _ (List.mem_cons_of_mem _ (List.mem_cons_of_mem _ (List.mem_cons_of_mem _ (List.mem_cons_of_mem _ (List.mem_cons_of_mem _ List.mem_cons_self))))))), (List.forall_mem_cons.mpr ⟨(List.mem_cons_of_mem _ (List.mem_cons_of_mem _ (List.mem_cons_of_mem _ (List.mem_cons_of_mem _ (List.mem_cons_of_mem _ (List.mem_cons_of_mem _ List.mem_cons_self)))))), (List.forall_mem_cons.mpr ⟨(List.mem_cons_of_mem _ (List.mem_cons_of_mem _ List.mem_cons_self)), (List.forall_mem_cons.mpr ⟨(List.mem_cons_of_mem _ (List.mem_cons_of_mem _ (List.mem_cons_of_mem _ List.mem_cons_self))), (List.forall_mem_cons.mpr ⟨(List.mem_cons_of_mem _ (List.mem_cons_of_mem _ (List.mem_cons_of_mem _ (List.mem_cons_of_mem _ List.mem_cons_self)))), (List.forall_mem_cons.mpr ⟨(List.mem_cons_of_mem _ (List.mem_cons_of_mem _ (List.mem_cons_of_mem _ (List.mem_cons_of_mem _ (List.mem_cons_of_mem _ List.mem_cons_self))))), (fun _ h => absurd h List.not_mem_nil)⟩)⟩)⟩)⟩)⟩)⟩)⟩)⟩), show ([5, 4, 0, 1, 2, 3, 6, 7] : List Nat).Nodup by decide⟩ (C_mar_loop hi i3 hS hL hs hq n (k + 1) _ _ _ _ (by omega) ?_)
              first
                | (have hb : byM rep (iv h 236 k) x (lkM h k A) = _ := if_neg c2699
                   show bMs _ _ k + sgn (byM rep (iv h 236 k) x (lkM h k A)) (iv h (227 + i) k) = _
                   rw [hD, hb]
                   congr 1
                   unfold sgn
                   rw [iv_of g65]
                   exact if_pos (Int32.not_le.mp c2783))
                | (have hb : byM rep (iv h 236 k) x (lkM h k A) = _ := if_neg c2699
                   show bMs _ _ k + sgn (byM rep (iv h 236 k) x (lkM h k A)) (iv h (227 + i) k) = _
                   rw [hD, hb]
                   congr 1
                   unfold sgn
                   rw [iv_of g82]
                   exact (if_neg (Int32.not_lt.mpr c2783)).trans (if_pos (Int32.not_le.mp c2785)))
                | (have hb : byM rep (iv h 236 k) x (lkM h k A) = _ := if_neg c2699
                   show bMs _ _ k + sgn (byM rep (iv h 236 k) x (lkM h k A)) (iv h (227 + i) k) = _
                   rw [hD, hb]
                   congr 1
                   unfold sgn
                   exact (if_neg (Int32.not_lt.mpr c2783)).trans (if_neg (Int32.not_lt.mpr c2785)))
                | (have hb : byM rep (iv h 236 k) x (lkM h k A) = _ := (if_pos c2699).trans (if_neg (by rw [iv_of g37]; exact c2705))
                   show bMs _ _ k + sgn (byM rep (iv h 236 k) x (lkM h k A)) (iv h (227 + i) k) = _
                   rw [hD, hb]
                   congr 1
                   unfold sgn
                   rw [iv_of g65]
                   exact if_pos (Int32.not_le.mp c2783))
                | (have hb : byM rep (iv h 236 k) x (lkM h k A) = _ := (if_pos c2699).trans (if_neg (by rw [iv_of g37]; exact c2705))
                   show bMs _ _ k + sgn (byM rep (iv h 236 k) x (lkM h k A)) (iv h (227 + i) k) = _
                   rw [hD, hb]
                   congr 1
                   unfold sgn
                   rw [iv_of g82]
                   exact (if_neg (Int32.not_lt.mpr c2783)).trans (if_pos (Int32.not_le.mp c2785)))
                | (have hb : byM rep (iv h 236 k) x (lkM h k A) = _ := (if_pos c2699).trans (if_neg (by rw [iv_of g37]; exact c2705))
                   show bMs _ _ k + sgn (byM rep (iv h 236 k) x (lkM h k A)) (iv h (227 + i) k) = _
                   rw [hD, hb]
                   congr 1
                   unfold sgn
                   exact (if_neg (Int32.not_lt.mpr c2783)).trans (if_neg (Int32.not_lt.mpr c2785)))
                | (have hb : byM rep (iv h 236 k) x (lkM h k A) = _ := (if_pos c2699).trans (if_pos (by rw [iv_of g37]; exact Decidable.not_not.mp c2705))
                   show bMs _ _ k + sgn (byM rep (iv h 236 k) x (lkM h k A)) (iv h (227 + i) k) = _
                   rw [hD, hb]
                   congr 1
                   unfold sgn
                   rw [iv_of g65]
                   exact if_pos (Int32.not_le.mp c2783))
                | (have hb : byM rep (iv h 236 k) x (lkM h k A) = _ := (if_pos c2699).trans (if_pos (by rw [iv_of g37]; exact Decidable.not_not.mp c2705))
                   show bMs _ _ k + sgn (byM rep (iv h 236 k) x (lkM h k A)) (iv h (227 + i) k) = _
                   rw [hD, hb]
                   congr 1
                   unfold sgn
                   rw [iv_of g82]
                   exact (if_neg (Int32.not_lt.mpr c2783)).trans (if_pos (Int32.not_le.mp c2785)))
                | (have hb : byM rep (iv h 236 k) x (lkM h k A) = _ := (if_pos c2699).trans (if_pos (by rw [iv_of g37]; exact Decidable.not_not.mp c2705))
                   show bMs _ _ k + sgn (byM rep (iv h 236 k) x (lkM h k A)) (iv h (227 + i) k) = _
                   rw [hD, hb]
                   congr 1
                   unfold sgn
                   exact (if_neg (Int32.not_lt.mpr c2783)).trans (if_neg (Int32.not_lt.mpr c2785)))
          · cases e2783
            have c2783 := ndc q2783
            refine zSaload (m := 1) (k := 0) vr_168_57 rfl rfl rfl ?_
            refine zLget vr_168_58 rfl (fun p2804 w2804 e2804 t2804 g2804 => ?_)
            cases e2804
            first | (rw [(st_213_11 hS)] at g2804; cases g2804) | (rw [(st_213_14 hS)] at g2804; cases g2804) | (rw [hH] at g2804; cases g2804) | skip
            refine zSiload (m := 1) (k := 2) vr_168_61 rfl rfl rfl (fun x2805 e2805 => ?_)
            cases e2805
            refine zLaald vr_168_62 rfl (fun p2806 x2806 w2806 e2806 f2806 c2806 t2806 g2806 => ?_)
            cases e2806
            cases f2806
            first | (rw [(st_213_11 hS)] at g2806; cases g2806) | (rw [(st_213_14 hS)] at g2806; cases g2806) | (rw [hH] at g2806; cases g2806) | skip
            refine zSiload (m := 2) (k := 5) vr_168_63 rfl rfl rfl (fun x2807 e2807 => ?_)
            cases e2807
            refine zLiald vr_168_65 rfl (fun p2808 x2808 w2808 e2808 f2808 c2808 t2808 g2808 => ?_)
            cases e2808
            cases f2808
            first | (rw [(st_213_11 hS)] at g2808; cases g2808) | (rw [(st_213_14 hS)] at g2808; cases g2808) | (rw [hH] at g2808; cases g2808) | skip
            have g65 := g2808
            rw [kk.1] at g65
            refine zSgo (t := 88) vr_168_66 rfl rfl ?_
            refine zS2 (f := fun x y => .int (x + y)) vr_168_88 rfl rfl (fun x2810 y2810 e2810 f2810 => ?_)
            cases e2810
            cases f2810
            refine zSistore (m := 2) (k := 4) vr_168_89 rfl rfl (fun x2811 e2811 => ?_)
            cases e2811
            show zL zrx zi _ 168 91 [(4, _), (7, _), (6, _), (5, _), (0, _), (1, _), (2, _), (3, _)] [] _ _ _
            refine zSiinc vr_168_91 rfl rfl (fun x2812 e2812 => ?_)
            cases e2812
            show zL zrx zi _ 168 94 [(5, _), (4, _), (7, _), (6, _), (0, _), (1, _), (2, _), (3, _)] [] _ _ _
            refine zSgo (t := 6) vr_168_94 rfl rfl ?_
            rw [ofNat_succ]
            refine zL_pm _ _ _ [(5, _), (4, _), (0, _), (1, _), (2, _), (3, _), (6, _), (7, _)] _ _ _ _ _ ⟨(List.forall_mem_cons.mpr ⟨List.mem_cons_self, (List.forall_mem_cons.mpr ⟨(List.mem_cons_of_mem _ List.mem_cons_self), (List.forall_mem_cons.mpr ⟨(List.mem_cons_of_mem _ (List.mem_cons_of_mem _ (List.mem_cons_of_mem _ (List.mem_cons_of_mem _ (List.mem_cons_of_mem _ (List.mem_cons_of_mem _ (List.mem_cons_of_mem _ List.mem_cons_self))))))), (List.forall_mem_cons.mpr ⟨(List.mem_cons_of_mem _ (List.mem_cons_of_mem _ (List.mem_cons_of_mem _ (List.mem_cons_of_mem _ (List.mem_cons_of_mem _ (List.mem_cons_of_mem _ List.mem_cons_self)))))), (List.forall_mem_cons.mpr ⟨(List.mem_cons_of_mem _ (List.mem_cons_of_mem _ List.mem_cons_self)), (List.forall_mem_cons.mpr ⟨(List.mem_cons_of_mem _ (List.mem_cons_of_mem _ (List.mem_cons_of_mem _ List.mem_cons_self))), (List.forall_mem_cons.mpr ⟨(List.mem_cons_of_mem _ (List.mem_cons_of_mem _ (List.mem_cons_of_mem _ (List.mem_cons_of_mem _ List.mem_cons_self)))), (List.forall_mem_cons.mpr ⟨(List.mem_cons_of_mem _ (List.mem_cons_of_mem _ (List.mem_cons_of_mem _ (List.mem_cons_of_mem _ (List.mem_cons_of_mem _ List.mem_cons_self))))), (fun _ h => absurd h List.not_mem_nil)⟩)⟩)⟩)⟩)⟩)⟩)⟩)⟩), show ([5, 4, 0, 1, 2, 3, 6, 7] : List Nat).Nodup by decide⟩ (C_mar_loop hi i3 hS hL hs hq n (k + 1) _ _ _ _ (by omega) ?_)
            first
              | (have hb : byM rep (iv h 236 k) x (lkM h k A) = _ := if_neg c2699
                 show bMs _ _ k + sgn (byM rep (iv h 236 k) x (lkM h k A)) (iv h (227 + i) k) = _
                 rw [hD, hb]
                 congr 1
                 unfold sgn
                 rw [iv_of g65]
                 exact if_pos (Int32.not_le.mp c2783))
              | (have hb : byM rep (iv h 236 k) x (lkM h k A) = _ := if_neg c2699
                 show bMs _ _ k + sgn (byM rep (iv h 236 k) x (lkM h k A)) (iv h (227 + i) k) = _
                 rw [hD, hb]
                 congr 1
                 unfold sgn
                 rw [iv_of g82]
                 exact (if_neg (Int32.not_lt.mpr c2783)).trans (if_pos (Int32.not_le.mp c2785)))
              | (have hb : byM rep (iv h 236 k) x (lkM h k A) = _ := if_neg c2699
                 show bMs _ _ k + sgn (byM rep (iv h 236 k) x (lkM h k A)) (iv h (227 + i) k) = _
                 rw [hD, hb]
                 congr 1
                 unfold sgn
                 exact (if_neg (Int32.not_lt.mpr c2783)).trans (if_neg (Int32.not_lt.mpr c2785)))
              | (have hb : byM rep (iv h 236 k) x (lkM h k A) = _ := (if_pos c2699).trans (if_neg (by rw [iv_of g37]; exact c2705))
                 show bMs _ _ k + sgn (byM rep (iv h 236 k) x (lkM h k A)) (iv h (227 + i) k) = _
                 rw [hD, hb]
                 congr 1
                 unfold sgn
                 rw [iv_of g65]
                 exact if_pos (Int32.not_le.mp c2783))
              | (have hb : byM rep (iv h 236 k) x (lkM h k A) = _ := (if_pos c2699).trans (if_neg (by rw [iv_of g37]; exact c2705))
                 show bMs _ _ k + sgn (byM rep (iv h 236 k) x (lkM h k A)) (iv h (227 + i) k) = _
                 rw [hD, hb]
                 congr 1
                 unfold sgn
                 rw [iv_of g82]
                 exact (if_neg (Int32.not_lt.mpr c2783)).trans (if_pos (Int32.not_le.mp c2785)))
              | (have hb : byM rep (iv h 236 k) x (lkM h k A) = _ := (if_pos c2699).trans (if_neg (by rw [iv_of g37]; exact c2705))
                 show bMs _ _ k + sgn (byM rep (iv h 236 k) x (lkM h k A)) (iv h (227 + i) k) = _
                 rw [hD, hb]
                 congr 1
                 unfold sgn
                 exact (if_neg (Int32.not_lt.mpr c2783)).trans (if_neg (Int32.not_lt.mpr c2785)))
              | (have hb : byM rep (iv h 236 k) x (lkM h k A) = _ := (if_pos c2699).trans (if_pos (by rw [iv_of g37]; exact Decidable.not_not.mp c2705))
                 show bMs _ _ k + sgn (byM rep (iv h 236 k) x (lkM h k A)) (iv h (227 + i) k) = _
                 rw [hD, hb]
                 congr 1
                 unfold sgn
                 rw [iv_of g65]
                 exact if_pos (Int32.not_le.mp c2783))
              | (have hb : byM rep (iv h 236 k) x (lkM h k A) = _ := (if_pos c2699).trans (if_pos (by rw [iv_of g37]; exact Decidable.not_not.mp c2705))
                 show bMs _ _ k + sgn (byM rep (iv h 236 k) x (lkM h k A)) (iv h (227 + i) k) = _
                 rw [hD, hb]
                 congr 1
                 unfold sgn
                 rw [iv_of g82]
                 exact (if_neg (Int32.not_lt.mpr c2783)).trans (if_pos (Int32.not_le.mp c2785)))
              | (have hb : byM rep (iv h 236 k) x (lkM h k A) = _ := (if_pos c2699).trans (if_pos (by rw [iv_of g37]; exact Decidable.not_not.mp c2705))
                 show bMs _ _ k + sgn (byM rep (iv h 236 k) x (lkM h k A)) (iv h (227 + i) k) = _
                 rw [hD, hb]
                 congr 1
                 unfold sgn
                 exact (if_neg (Int32.not_lt.mpr c2783)).trans (if_neg (Int32.not_lt.mpr c2785)))
      · obtain ⟨-, z⟩ := q2696
        cases z
theorem C_mar (n : Nat) (x hv rep : Int32) (h : List zC) (u : Nat) {i el A : Nat} {cnt : Int32} (hi : hv.toNatClampNeg = i) (i3 : i < 3) (hS : Stc h) (hL : gF h 225 1 = some (.ref el)) (hs : gF h 225 2 = some (.int cnt)) (hq : gF h el x.toNatClampNeg = some (.ref A)) : zL zrx zi n 168 0 [(0, .ref 213), (1, .int x), (2, .int hv), (3, .int rep)] [] h u (fun o h2 _ => h2 = h ∧ o = .inl (some (.int (bMs (fun f => iv h (227 + i) f) (fun f => byM rep (iv h 236 f) x (lkM h f A)) 4)))) := by
  refine zSp0 (pc' := 1) (st' := .int (0) :: _) vr_168_0 rfl rfl ?_
  refine zSistore (m := 2) (k := 4) vr_168_1 rfl rfl (fun x2815 e2815 => ?_)
  cases e2815
  show zL zrx zi _ 168 3 [(4, _), (0, _), (1, _), (2, _), (3, _)] [] _ _ _
  refine zSp0 (pc' := 4) (st' := .int (0) :: _) vr_168_3 rfl rfl ?_
  refine zSistore (m := 2) (k := 5) vr_168_4 rfl rfl (fun x2817 e2817 => ?_)
  cases e2817
  show zL zrx zi _ 168 6 [(5, _), (4, _), (0, _), (1, _), (2, _), (3, _)] [] _ _ _
  exact zL_pm _ _ _ [(5, _), (4, _), (0, _), (1, _), (2, _), (3, _), (6, _), (7, _)] _ _ _ _ _ ⟨(List.forall_mem_cons.mpr ⟨List.mem_cons_self, (List.forall_mem_cons.mpr ⟨(List.mem_cons_of_mem _ List.mem_cons_self), (List.forall_mem_cons.mpr ⟨(List.mem_cons_of_mem _ (List.mem_cons_of_mem _ List.mem_cons_self)), (List.forall_mem_cons.mpr ⟨(List.mem_cons_of_mem _ (List.mem_cons_of_mem _ (List.mem_cons_of_mem _ List.mem_cons_self))), (List.forall_mem_cons.mpr ⟨(List.mem_cons_of_mem _ (List.mem_cons_of_mem _ (List.mem_cons_of_mem _ (List.mem_cons_of_mem _ List.mem_cons_self)))), (List.forall_mem_cons.mpr ⟨(List.mem_cons_of_mem _ (List.mem_cons_of_mem _ (List.mem_cons_of_mem _ (List.mem_cons_of_mem _ (List.mem_cons_of_mem _ List.mem_cons_self))))), (fun _ h => absurd h List.not_mem_nil)⟩)⟩)⟩)⟩)⟩)⟩), show ([5, 4, 0, 1, 2, 3, 6, 7] : List Nat).Nodup by decide⟩ (C_mar_loop hi i3 hS hL hs hq _ 0 0 .null .null _ (by omega) rfl)
set_option maxRecDepth 20000 in
theorem C_hfo_loop {h : List zC} {x rep : Int32} {el A : Nat} {cnt : Int32} (hS : Stc h) (hL : gF h 225 1 = some (.ref el)) (hs : gF h 225 2 = some (.int cnt)) (hq : gF h el x.toNatClampNeg = some (.ref A)) : ∀ (n k : Nat) (r : Int32) (u : Nat), k ≤ 3 → hcF (fun i => bMs (fun f => iv h (227 + i) f) (fun f => byM rep (iv h 236 f) x (lkM h f A)) 4) k = r → zL zrx zi n 169 5 [(4, .int (Int32.ofNat k)), (3, .int r), (0, .ref 213), (1, .int x), (2, .int rep)] [] h u (fun o h2 _ => h2 = h ∧ o = .inl (some (.int (hcF (fun i => bMs (fun f => iv h (227 + i) f) (fun f => byM rep (iv h 236 f) x (lkM h f A)) 4) 3))))
  | 0, _, _, _ => fun _ _ => trivial
  | n + 1, k, r, u => fun hk hD => by
    have kk := (toNat_ofNat (m := k) (by omega))
    have z3 : (3 : Int32).toInt = 3 := rfl
    refine zLp vr_169_5 rfl rfl ?_
    refine zSp0 (pc' := 8) (st' := .int (3) :: _) vr_169_7 rfl rfl ?_
    refine zSb2 (f := fun x y => decide (y ≤ x)) (off := 28) (t := 36) vr_169_8 rfl rfl rfl (fun x2819 y2819 e2819 f2819 q2819 => ?_) (fun x2819 y2819 e2819 f2819 q2819 => ?_)
    · cases e2819
      cases f2819
      have c2819 := of_decide_eq_true q2819
      refine zSiload (m := 1) (k := 3) vr_169_36 rfl rfl rfl (fun x2820 e2820 => ?_)
      cases e2820
      refine zLiret vr_169_37 rfl (fun x2821 e2821 => ?_)
      cases e2821
      have e : k = 3 := by
        have y := c2819
        rw [i32_le, kk.2, z3] at y
        omega
      subst e
      rw [hD]
      exact ⟨rfl, rfl⟩
    · cases e2819
      cases f2819
      have c2819 := ndc q2819
      have k3 : k < 3 := by
        have y := c2819
        rw [i32_le, kk.2, z3] at y
        omega
      refine zSiload (m := 1) (k := 3) vr_169_11 rfl rfl rfl (fun x2822 e2822 => ?_)
      cases e2822
      refine zSaload (m := 1) (k := 0) vr_169_12 rfl rfl rfl ?_
      refine zSiload (m := 1) (k := 1) vr_169_13 rfl rfl rfl (fun x2824 e2824 => ?_)
      cases e2824
      refine zSiload (m := 2) (k := 4) vr_169_14 rfl rfl rfl (fun x2825 e2825 => ?_)
      cases e2825
      refine zSiload (m := 1) (k := 2) vr_169_16 rfl rfl rfl (fun x2826 e2826 => ?_)
      cases e2826
      refine zScall vr_169_17 rfl rfl rfl (fun m2827 _ => C_mar _ _ _ _ _ _ kk.1 k3 hS hL hs hq) (fun v2827 h2827 u2827 q2827 => ?_) (fun E2827 h2827 u2827 q2827 => ?_)
      · obtain ⟨eh2827, z2827⟩ := q2827
        replace eh2827 := eh2827.symm
        subst eh2827
        cases z2827
        show zL zrx zi _ 169 20 [(4, _), (3, _), (0, _), (1, _), (2, _)] [_, _] _ _ _
        refine zSb1 (f := fun x => decide (x ≤ 0)) (off := 7) (t := 27) vr_169_20 rfl rfl rfl (fun x2828 e2828 q2828 => ?_) (fun x2828 e2828 q2828 => ?_)
        · cases e2828
          have c2828 := of_decide_eq_true q2828
          refine zSp0 (pc' := 28) (st' := .int (0) :: _) vr_169_27 rfl rfl ?_
          refine zS2 (f := fun x y => .int (x + y)) vr_169_28 rfl rfl (fun x2830 y2830 e2830 f2830 => ?_)
          cases e2830
          cases f2830
          refine zSistore (m := 1) (k := 3) vr_169_29 rfl rfl (fun x2831 e2831 => ?_)
          cases e2831
          show zL zrx zi _ 169 30 [(3, _), (4, _), (0, _), (1, _), (2, _)] [] _ _ _
          refine zSiinc vr_169_30 rfl rfl (fun x2832 e2832 => ?_)
          cases e2832
          show zL zrx zi _ 169 33 [(4, _), (3, _), (0, _), (1, _), (2, _)] [] _ _ _
          refine zSgo (t := 5) vr_169_33 rfl rfl ?_
          rw [ofNat_succ]
          refine zL_pm _ _ _ [(4, _), (3, _), (0, _), (1, _), (2, _)] _ _ _ _ _ ⟨(List.forall_mem_cons.mpr ⟨List.mem_cons_self, (List.forall_mem_cons.mpr ⟨(List.mem_cons_of_mem _ List.mem_cons_self), (List.forall_mem_cons.mpr ⟨(List.mem_cons_of_mem _ (List.mem_cons_of_mem _ List.mem_cons_self)), (List.forall_mem_cons.mpr ⟨(List.mem_cons_of_mem _ (List.mem_cons_of_mem _ (List.mem_cons_of_mem _ List.mem_cons_self))), (List.forall_mem_cons.mpr ⟨(List.mem_cons_of_mem _ (List.mem_cons_of_mem _ (List.mem_cons_of_mem _ (List.mem_cons_of_mem _ List.mem_cons_self)))), (fun _ h => absurd h List.not_mem_nil)⟩)⟩)⟩)⟩)⟩), show ([4, 3, 0, 1, 2] : List Nat).Nodup by decide⟩ (C_hfo_loop hS hL hs hq n (k + 1) _ _ (by omega) ?_)
          first
            | exact (hcF_n (B := (fun i => bMs (fun f => iv h (227 + i) f) (fun f => byM rep (iv h 236 f) x (lkM h f A)) 4)) (k := k) (Int32.not_lt.mpr c2828)).trans (hD.trans (Int32.add_zero _).symm)
            | exact (hcF_y (B := (fun i => bMs (fun f => iv h (227 + i) f) (fun f => byM rep (iv h 236 f) x (lkM h f A)) 4)) (k := k) (Int32.not_le.mp c2828)).trans (by rw [hD])
        · cases e2828
          have c2828 := ndc q2828
          refine zSp0 (pc' := 24) (st' := .int (1) :: _) vr_169_23 rfl rfl ?_
          refine zSgo (t := 28) vr_169_24 rfl rfl ?_
          refine zS2 (f := fun x y => .int (x + y)) vr_169_28 rfl rfl (fun x2836 y2836 e2836 f2836 => ?_)
          cases e2836
          cases f2836
          refine zSistore (m := 1) (k := 3) vr_169_29 rfl rfl (fun x2837 e2837 => ?_)
          cases e2837
          show zL zrx zi _ 169 30 [(3, _), (4, _), (0, _), (1, _), (2, _)] [] _ _ _
          refine zSiinc vr_169_30 rfl rfl (fun x2838 e2838 => ?_)
          cases e2838
          show zL zrx zi _ 169 33 [(4, _), (3, _), (0, _), (1, _), (2, _)] [] _ _ _
          refine zSgo (t := 5) vr_169_33 rfl rfl ?_
          rw [ofNat_succ]
          refine zL_pm _ _ _ [(4, _), (3, _), (0, _), (1, _), (2, _)] _ _ _ _ _ ⟨(List.forall_mem_cons.mpr ⟨List.mem_cons_self, (List.forall_mem_cons.mpr ⟨(List.mem_cons_of_mem _ List.mem_cons_self), (List.forall_mem_cons.mpr ⟨(List.mem_cons_of_mem _ (List.mem_cons_of_mem _ List.mem_cons_self)), (List.forall_mem_cons.mpr ⟨(List.mem_cons_of_mem _ (List.mem_cons_of_mem _ (List.mem_cons_of_mem _ List.mem_cons_self))), (List.forall_mem_cons.mpr ⟨(List.mem_cons_of_mem _ (List.mem_cons_of_mem _ (List.mem_cons_of_mem _ (List.mem_cons_of_mem _ List.mem_cons_self)))), (fun _ h => absurd h List.not_mem_nil)⟩)⟩)⟩)⟩)⟩), show ([4, 3, 0, 1, 2] : List Nat).Nodup by decide⟩ (C_hfo_loop hS hL hs hq n (k + 1) _ _ (by omega) ?_)
          first
            | exact (hcF_n (B := (fun i => bMs (fun f => iv h (227 + i) f) (fun f => byM rep (iv h 236 f) x (lkM h f A)) 4)) (k := k) (Int32.not_lt.mpr c2828)).trans (hD.trans (Int32.add_zero _).symm)
            | exact (hcF_y (B := (fun i => bMs (fun f => iv h (227 + i) f) (fun f => byM rep (iv h 236 f) x (lkM h f A)) 4)) (k := k) (Int32.not_le.mp c2828)).trans (by rw [hD])
      · obtain ⟨-, z⟩ := q2827
        cases z
theorem C_hfo (n : Nat) (x rep : Int32) (h : List zC) (u : Nat) {el A : Nat} {cnt : Int32} (hS : Stc h) (hL : gF h 225 1 = some (.ref el)) (hs : gF h 225 2 = some (.int cnt)) (hq : gF h el x.toNatClampNeg = some (.ref A)) : zL zrx zi n 169 0 [(0, .ref 213), (1, .int x), (2, .int rep)] [] h u (fun o h2 _ => h2 = h ∧ o = .inl (some (.int (hcF (fun i => bMs (fun f => iv h (227 + i) f) (fun f => byM rep (iv h 236 f) x (lkM h f A)) 4) 3)))) := by
  refine zSp0 (pc' := 1) (st' := .int (0) :: _) vr_169_0 rfl rfl ?_
  refine zSistore (m := 1) (k := 3) vr_169_1 rfl rfl (fun x2841 e2841 => ?_)
  cases e2841
  show zL zrx zi _ 169 2 [(3, _), (0, _), (1, _), (2, _)] [] _ _ _
  refine zSp0 (pc' := 3) (st' := .int (0) :: _) vr_169_2 rfl rfl ?_
  refine zSistore (m := 2) (k := 4) vr_169_3 rfl rfl (fun x2843 e2843 => ?_)
  cases e2843
  show zL zrx zi _ 169 5 [(4, _), (3, _), (0, _), (1, _), (2, _)] [] _ _ _
  exact zL_pm _ _ _ [(4, _), (3, _), (0, _), (1, _), (2, _)] _ _ _ _ _ ⟨(List.forall_mem_cons.mpr ⟨List.mem_cons_self, (List.forall_mem_cons.mpr ⟨(List.mem_cons_of_mem _ List.mem_cons_self), (List.forall_mem_cons.mpr ⟨(List.mem_cons_of_mem _ (List.mem_cons_of_mem _ List.mem_cons_self)), (List.forall_mem_cons.mpr ⟨(List.mem_cons_of_mem _ (List.mem_cons_of_mem _ (List.mem_cons_of_mem _ List.mem_cons_self))), (List.forall_mem_cons.mpr ⟨(List.mem_cons_of_mem _ (List.mem_cons_of_mem _ (List.mem_cons_of_mem _ (List.mem_cons_of_mem _ List.mem_cons_self)))), (fun _ h => absurd h List.not_mem_nil)⟩)⟩)⟩)⟩)⟩), show ([4, 3, 0, 1, 2] : List Nat).Nodup by decide⟩ (C_hfo_loop hS hL hs hq _ 0 0 _ (by omega) rfl)
set_option maxRecDepth 20000 in
theorem C_als_loop {h : List zC} {i : Nat} {hv : Int32} (hS : Stc h) (hi : hv.toNatClampNeg = i) : ∀ (n k : Nat) (r : Int32) (u : Nat), k ≤ 4 → asC (fun f => iv h (173 + 3 * f) i) k = r → zL zrx zi n 49 4 [(3, .int (Int32.ofNat k)), (2, .int r), (0, .ref 169), (1, .int hv)] [] h u (fun o h2 _ => h2 = h ∧ o = .inl (some (.int (asC (fun f => iv h (173 + 3 * f) i) 4))))
  | 0, _, _, _ => fun _ _ => trivial
  | n + 1, k, r, u => fun hk hD => by
    have kk := (toNat_ofNat (m := k) (by omega))
    have z4 : (4 : Int32).toInt = 4 := rfl
    refine zLp vr_49_4 rfl rfl ?_
    refine zSp0 (pc' := 6) (st' := .int (4) :: _) vr_49_5 rfl rfl ?_
    refine zSb2 (f := fun x y => decide (y ≤ x)) (off := 23) (t := 29) vr_49_6 rfl rfl rfl (fun x2845 y2845 e2845 f2845 q2845 => ?_) (fun x2845 y2845 e2845 f2845 q2845 => ?_)
    · cases e2845
      cases f2845
      have c2845 := of_decide_eq_true q2845
      refine zSiload (m := 1) (k := 2) vr_49_29 rfl rfl rfl (fun x2846 e2846 => ?_)
      cases e2846
      refine zLiret vr_49_30 rfl (fun x2847 e2847 => ?_)
      cases e2847
      have e : k = 4 := by
        have y := c2845
        rw [i32_le, kk.2, z4] at y
        omega
      subst e
      rw [hD]
      exact ⟨rfl, rfl⟩
    · cases e2845
      cases f2845
      have c2845 := ndc q2845
      have k4 : k < 4 := by
        have y := c2845
        rw [i32_le, kk.2, z4] at y
        omega
      have hI : gF h 170 (Int32.ofNat k).toNatClampNeg = some (.ref (171 + 3 * k)) := by
        rw [kk.1]
        exact st_fac hS k4
      refine zSiload (m := 1) (k := 2) vr_49_9 rfl rfl rfl (fun x2848 e2848 => ?_)
      cases e2848
      refine zSaload (m := 1) (k := 0) vr_49_10 rfl rfl rfl ?_
      refine zLget vr_49_11 rfl (fun p2850 w2850 e2850 t2850 g2850 => ?_)
      cases e2850
      first | (rw [(st_169_0 hS)] at g2850; cases g2850) | (rw [hI] at g2850; cases g2850) | (rw [(st_fs hS k4)] at g2850; cases g2850) | skip
      refine zSiload (m := 1) (k := 3) vr_49_14 rfl rfl rfl (fun x2851 e2851 => ?_)
      cases e2851
      refine zLaald vr_49_15 rfl (fun p2852 x2852 w2852 e2852 f2852 c2852 t2852 g2852 => ?_)
      cases e2852
      cases f2852
      first | (rw [(st_169_0 hS)] at g2852; cases g2852) | (rw [hI] at g2852; cases g2852) | (rw [(st_fs hS k4)] at g2852; cases g2852) | skip
      refine zLget vr_49_16 rfl (fun p2853 w2853 e2853 t2853 g2853 => ?_)
      cases e2853
      first | (rw [(st_169_0 hS)] at g2853; cases g2853) | (rw [hI] at g2853; cases g2853) | (rw [(st_fs hS k4)] at g2853; cases g2853) | skip
      refine zSiload (m := 1) (k := 1) vr_49_19 rfl rfl rfl (fun x2854 e2854 => ?_)
      cases e2854
      refine zLiald vr_49_20 rfl (fun p2855 x2855 w2855 e2855 f2855 c2855 t2855 g2855 => ?_)
      cases e2855
      cases f2855
      first | (rw [(st_169_0 hS)] at g2855; cases g2855) | (rw [hI] at g2855; cases g2855) | (rw [(st_fs hS k4)] at g2855; cases g2855) | skip
      have g20 := g2855
      rw [hi] at g20
      refine zS2 (f := fun x y => .int (x + y)) vr_49_21 rfl rfl (fun x2856 y2856 e2856 f2856 => ?_)
      cases e2856
      cases f2856
      refine zSistore (m := 1) (k := 2) vr_49_22 rfl rfl (fun x2857 e2857 => ?_)
      cases e2857
      show zL zrx zi _ 49 23 [(2, _), (3, _), (0, _), (1, _)] [] _ _ _
      refine zSiinc vr_49_23 rfl rfl (fun x2858 e2858 => ?_)
      cases e2858
      show zL zrx zi _ 49 26 [(3, _), (2, _), (0, _), (1, _)] [] _ _ _
      refine zSgo (t := 4) vr_49_26 rfl rfl ?_
      rw [ofNat_succ]
      refine zL_pm _ _ _ [(3, _), (2, _), (0, _), (1, _)] _ _ _ _ _ ⟨(List.forall_mem_cons.mpr ⟨List.mem_cons_self, (List.forall_mem_cons.mpr ⟨(List.mem_cons_of_mem _ List.mem_cons_self), (List.forall_mem_cons.mpr ⟨(List.mem_cons_of_mem _ (List.mem_cons_of_mem _ List.mem_cons_self)), (List.forall_mem_cons.mpr ⟨(List.mem_cons_of_mem _ (List.mem_cons_of_mem _ (List.mem_cons_of_mem _ List.mem_cons_self))), (fun _ h => absurd h List.not_mem_nil)⟩)⟩)⟩)⟩), show ([3, 2, 0, 1] : List Nat).Nodup by decide⟩ (C_als_loop hS hi n (k + 1) _ _ (by omega) ?_)
      show asC _ k + iv h (173 + 3 * k) i = _
      rw [hD, iv_of g20]
theorem C_als (n : Nat)  (h : List zC) (u : Nat) {i : Nat} {hv : Int32} (hS : Stc h) (hi : hv.toNatClampNeg = i) : zL zrx zi n 49 0 [(0, .ref 169), (1, .int hv)] [] h u (fun o h2 _ => h2 = h ∧ o = .inl (some (.int (asC (fun f => iv h (173 + 3 * f) i) 4)))) := by
  refine zSp0 (pc' := 1) (st' := .int (0) :: _) vr_49_0 rfl rfl ?_
  refine zSistore (m := 1) (k := 2) vr_49_1 rfl rfl (fun x2861 e2861 => ?_)
  cases e2861
  show zL zrx zi _ 49 2 [(2, _), (0, _), (1, _)] [] _ _ _
  refine zSp0 (pc' := 3) (st' := .int (0) :: _) vr_49_2 rfl rfl ?_
  refine zSistore (m := 1) (k := 3) vr_49_3 rfl rfl (fun x2863 e2863 => ?_)
  cases e2863
  show zL zrx zi _ 49 4 [(3, _), (2, _), (0, _), (1, _)] [] _ _ _
  exact zL_pm _ _ _ [(3, _), (2, _), (0, _), (1, _)] _ _ _ _ _ ⟨(List.forall_mem_cons.mpr ⟨List.mem_cons_self, (List.forall_mem_cons.mpr ⟨(List.mem_cons_of_mem _ List.mem_cons_self), (List.forall_mem_cons.mpr ⟨(List.mem_cons_of_mem _ (List.mem_cons_of_mem _ List.mem_cons_self)), (List.forall_mem_cons.mpr ⟨(List.mem_cons_of_mem _ (List.mem_cons_of_mem _ (List.mem_cons_of_mem _ List.mem_cons_self))), (fun _ h => absurd h List.not_mem_nil)⟩)⟩)⟩)⟩), show ([3, 2, 0, 1] : List Nat).Nodup by decide⟩ (C_als_loop hS hi _ 0 0 _ (by omega) rfl)
theorem C_seats (n : Nat) (x f s : Int32) (h : List zC) (u : Nat) (hS : Stc h) : zL zrx zi n 66 0 [(0, .ref 16), (1, .int x), (2, .int f), (3, .int s)] [] h u (fun o h2 _ => match o with
  | .inl v => ((iN 3 x ∧ iN 4 f) ∧ rI 0 60 s) ∧ ∃ y : Int32, v = some (.int y) ∧ hPut h h2 (173 + 3 * f.toNatClampNeg) x.toNatClampNeg (.int s) ∧ y = asC (fun k => iv h2 (173 + 3 * k) x.toNatClampNeg) 4
  | .inr E => hExt h h2 ∧ ((E = 0 ∧ ¬ (iN 3 x ∧ iN 4 f)) ∨ (E = 1 ∧ (iN 3 x ∧ iN 4 f) ∧ ¬ rI 0 60 s))) := by
  refine zSiload (m := 1) (k := 1) vr_66_0 rfl rfl rfl (fun x2864 e2864 => ?_)
  cases e2864
  refine zSp0 (pc' := 2) (st' := .int (3) :: _) vr_66_1 rfl rfl ?_
  refine zScall vr_66_2 rfl rfl rfl (fun m2866 _ => C_num6 _ _ _ _ (m := 3) (by rfl)) (fun v2866 h2866 u2866 q2866 => ?_) (fun E2866 h2866 u2866 q2866 => ?_)
  · obtain ⟨eh2866, rfl, r1⟩ := q2866
    replace eh2866 := eh2866.symm
    subst eh2866
    show zL zrx zi _ 66 5 [(0, _), (1, _), (2, _), (3, _)] [] _ _ _
    refine zSiload (m := 1) (k := 2) vr_66_5 rfl rfl rfl (fun x2867 e2867 => ?_)
    cases e2867
    refine zSp0 (pc' := 7) (st' := .int (4) :: _) vr_66_6 rfl rfl ?_
    refine zScall vr_66_7 rfl rfl rfl (fun m2869 _ => C_num6 _ _ _ _ (m := 4) (by rfl)) (fun v2869 h2869 u2869 q2869 => ?_) (fun E2869 h2869 u2869 q2869 => ?_)
    · obtain ⟨eh2869, rfl, r2⟩ := q2869
      replace eh2869 := eh2869.symm
      subst eh2869
      show zL zrx zi _ 66 10 [(0, _), (1, _), (2, _), (3, _)] [] _ _ _
      refine zSiload (m := 1) (k := 3) vr_66_10 rfl rfl rfl (fun x2870 e2870 => ?_)
      cases e2870
      refine zSp0 (pc' := 12) (st' := .int (0) :: _) vr_66_11 rfl rfl ?_
      refine zSp0 (pc' := 14) (st' := .int (60) :: _) vr_66_12 rfl rfl ?_
      refine zScall vr_66_14 rfl rfl rfl (fun m2873 _ => C_val _ _ _ _ _ _) (fun v2873 h2873 u2873 q2873 => ?_) (fun E2873 h2873 u2873 q2873 => ?_)
      · obtain ⟨eh2873, rfl, r3⟩ := q2873
        replace eh2873 := eh2873.symm
        subst eh2873
        show zL zrx zi _ 66 17 [(0, _), (1, _), (2, _), (3, _)] [] _ _ _
        refine zSaload (m := 1) (k := 0) vr_66_17 rfl rfl rfl ?_
        refine zLget vr_66_18 rfl (fun p2875 w2875 e2875 t2875 g2875 => ?_)
        cases e2875
        first | (rw [(st_16_11 hS)] at g2875; cases g2875) | (rw [(st_169_0 hS)] at g2875; cases g2875) | (rw [(st_fac hS (iN4 r2))] at g2875; cases g2875) | (rw [(st_fs hS (iN4 r2))] at g2875; cases g2875) | skip
        refine zLget vr_66_21 rfl (fun p2876 w2876 e2876 t2876 g2876 => ?_)
        cases e2876
        first | (rw [(st_16_11 hS)] at g2876; cases g2876) | (rw [(st_169_0 hS)] at g2876; cases g2876) | (rw [(st_fac hS (iN4 r2))] at g2876; cases g2876) | (rw [(st_fs hS (iN4 r2))] at g2876; cases g2876) | skip
        refine zSiload (m := 1) (k := 2) vr_66_24 rfl rfl rfl (fun x2877 e2877 => ?_)
        cases e2877
        refine zLaald vr_66_25 rfl (fun p2878 x2878 w2878 e2878 f2878 c2878 t2878 g2878 => ?_)
        cases e2878
        cases f2878
        first | (rw [(st_16_11 hS)] at g2878; cases g2878) | (rw [(st_169_0 hS)] at g2878; cases g2878) | (rw [(st_fac hS (iN4 r2))] at g2878; cases g2878) | (rw [(st_fs hS (iN4 r2))] at g2878; cases g2878) | skip
        refine zLget vr_66_26 rfl (fun p2879 w2879 e2879 t2879 g2879 => ?_)
        cases e2879
        first | (rw [(st_16_11 hS)] at g2879; cases g2879) | (rw [(st_169_0 hS)] at g2879; cases g2879) | (rw [(st_fac hS (iN4 r2))] at g2879; cases g2879) | (rw [(st_fs hS (iN4 r2))] at g2879; cases g2879) | skip
        refine zSiload (m := 1) (k := 1) vr_66_29 rfl rfl rfl (fun x2880 e2880 => ?_)
        cases e2880
        refine zSiload (m := 1) (k := 3) vr_66_30 rfl rfl rfl (fun x2881 e2881 => ?_)
        cases e2881
        refine zLiast vr_66_31 rfl (fun p2882 x2882 z2882 k2882 e2882 f2882 d2882 c2882 t2882 g2882 => ?_)
        cases e2882
        cases f2882
        cases d2882
        have hS2 := hS.put g2882 (row_st (Or.inl (by have := iN4 r2; omega)))
        refine zSaload (m := 1) (k := 0) vr_66_32 rfl rfl rfl ?_
        refine zLget vr_66_33 rfl (fun p2884 w2884 e2884 t2884 g2884 => ?_)
        cases e2884
        first | (rw [(st_16_11 hS2)] at g2884; cases g2884) | skip
        refine zSiload (m := 1) (k := 1) vr_66_36 rfl rfl rfl (fun x2885 e2885 => ?_)
        cases e2885
        refine zScall vr_66_37 rfl rfl rfl (fun m2886 _ => C_als _ _ _ hS2 rfl) (fun v2886 h2886 u2886 q2886 => ?_) (fun E2886 h2886 u2886 q2886 => ?_)
        · obtain ⟨eh2886, z2886⟩ := q2886
          replace eh2886 := eh2886.symm
          subst eh2886
          cases z2886
          show zL zrx zi _ 66 40 [(0, _), (1, _), (2, _), (3, _)] [_] _ _ _
          refine zLiret vr_66_40 rfl (fun x2887 e2887 => ?_)
          cases e2887
          exact ⟨⟨⟨r1, r2⟩, r3⟩, _, rfl, g2882, rfl⟩
        · obtain ⟨-, z⟩ := q2886
          cases z
      · obtain ⟨rfl, q1, q2⟩ := q2873
        rw [zCat_no vh_66_14_1]
        exact ⟨q2, Or.inr ⟨rfl, ⟨r1, r2⟩, q1⟩⟩
    · obtain ⟨rfl, q1, q2⟩ := q2869
      rw [zCat_no vh_66_7_0]
      exact ⟨q2, Or.inl ⟨rfl, fun z => q1 z.2⟩⟩
  · obtain ⟨rfl, q1, q2⟩ := q2866
    rw [zCat_no vh_66_2_0]
    exact ⟨q2, Or.inl ⟨rfl, fun z => q1 z.1⟩⟩
theorem C_mood (n : Nat) (f m s : Int32) (h : List zC) (u : Nat) (hS : Stc h) : zL zrx zi n 67 0 [(0, .ref 16), (1, .int f), (2, .int m), (3, .int s)] [] h u (fun o h2 _ => match o with
  | .inl v => ((iN 4 f ∧ iN 4 m) ∧ rI (-5) 5 s) ∧ ∃ y : Int32, v = some (.int y) ∧ hPut h h2 (172 + 3 * f.toNatClampNeg) m.toNatClampNeg (.int s) ∧ y = iv h (172 + 3 * f.toNatClampNeg) m.toNatClampNeg
  | .inr E => hExt h h2 ∧ ((E = 0 ∧ ¬ (iN 4 f ∧ iN 4 m)) ∨ (E = 1 ∧ (iN 4 f ∧ iN 4 m) ∧ ¬ rI (-5) 5 s))) := by
  refine zSiload (m := 1) (k := 1) vr_67_0 rfl rfl rfl (fun x2888 e2888 => ?_)
  cases e2888
  refine zSp0 (pc' := 2) (st' := .int (4) :: _) vr_67_1 rfl rfl ?_
  refine zScall vr_67_2 rfl rfl rfl (fun m2890 _ => C_num6 _ _ _ _ (m := 4) (by rfl)) (fun v2890 h2890 u2890 q2890 => ?_) (fun E2890 h2890 u2890 q2890 => ?_)
  · obtain ⟨eh2890, rfl, r1⟩ := q2890
    replace eh2890 := eh2890.symm
    subst eh2890
    show zL zrx zi _ 67 5 [(0, _), (1, _), (2, _), (3, _)] [] _ _ _
    refine zSiload (m := 1) (k := 2) vr_67_5 rfl rfl rfl (fun x2891 e2891 => ?_)
    cases e2891
    refine zSp0 (pc' := 7) (st' := .int (4) :: _) vr_67_6 rfl rfl ?_
    refine zScall vr_67_7 rfl rfl rfl (fun m2893 _ => C_num6 _ _ _ _ (m := 4) (by rfl)) (fun v2893 h2893 u2893 q2893 => ?_) (fun E2893 h2893 u2893 q2893 => ?_)
    · obtain ⟨eh2893, rfl, r2⟩ := q2893
      replace eh2893 := eh2893.symm
      subst eh2893
      show zL zrx zi _ 67 10 [(0, _), (1, _), (2, _), (3, _)] [] _ _ _
      refine zSiload (m := 1) (k := 3) vr_67_10 rfl rfl rfl (fun x2894 e2894 => ?_)
      cases e2894
      refine zSp0 (pc' := 13) (st' := .int (-5) :: _) vr_67_11 rfl rfl ?_
      refine zSp0 (pc' := 14) (st' := .int (5) :: _) vr_67_13 rfl rfl ?_
      refine zScall vr_67_14 rfl rfl rfl (fun m2897 _ => C_val _ _ _ _ _ _) (fun v2897 h2897 u2897 q2897 => ?_) (fun E2897 h2897 u2897 q2897 => ?_)
      · obtain ⟨eh2897, rfl, r3⟩ := q2897
        replace eh2897 := eh2897.symm
        subst eh2897
        show zL zrx zi _ 67 17 [(0, _), (1, _), (2, _), (3, _)] [] _ _ _
        refine zSaload (m := 1) (k := 0) vr_67_17 rfl rfl rfl ?_
        refine zLget vr_67_18 rfl (fun p2899 w2899 e2899 t2899 g2899 => ?_)
        cases e2899
        first | (rw [(st_16_11 hS)] at g2899; cases g2899) | (rw [(st_169_0 hS)] at g2899; cases g2899) | (rw [(st_fac hS (iN4 r1))] at g2899; cases g2899) | (rw [(st_fm hS (iN4 r1))] at g2899; cases g2899) | skip
        refine zLget vr_67_21 rfl (fun p2900 w2900 e2900 t2900 g2900 => ?_)
        cases e2900
        first | (rw [(st_16_11 hS)] at g2900; cases g2900) | (rw [(st_169_0 hS)] at g2900; cases g2900) | (rw [(st_fac hS (iN4 r1))] at g2900; cases g2900) | (rw [(st_fm hS (iN4 r1))] at g2900; cases g2900) | skip
        refine zSiload (m := 1) (k := 1) vr_67_24 rfl rfl rfl (fun x2901 e2901 => ?_)
        cases e2901
        refine zLaald vr_67_25 rfl (fun p2902 x2902 w2902 e2902 f2902 c2902 t2902 g2902 => ?_)
        cases e2902
        cases f2902
        first | (rw [(st_16_11 hS)] at g2902; cases g2902) | (rw [(st_169_0 hS)] at g2902; cases g2902) | (rw [(st_fac hS (iN4 r1))] at g2902; cases g2902) | (rw [(st_fm hS (iN4 r1))] at g2902; cases g2902) | skip
        refine zLget vr_67_26 rfl (fun p2903 w2903 e2903 t2903 g2903 => ?_)
        cases e2903
        first | (rw [(st_16_11 hS)] at g2903; cases g2903) | (rw [(st_169_0 hS)] at g2903; cases g2903) | (rw [(st_fac hS (iN4 r1))] at g2903; cases g2903) | (rw [(st_fm hS (iN4 r1))] at g2903; cases g2903) | skip
        refine zSiload (m := 1) (k := 2) vr_67_29 rfl rfl rfl (fun x2904 e2904 => ?_)
        cases e2904
        refine zLiald vr_67_30 rfl (fun p2905 x2905 w2905 e2905 f2905 c2905 t2905 g2905 => ?_)
        cases e2905
        cases f2905
        first | (rw [(st_16_11 hS)] at g2905; cases g2905) | (rw [(st_169_0 hS)] at g2905; cases g2905) | (rw [(st_fac hS (iN4 r1))] at g2905; cases g2905) | (rw [(st_fm hS (iN4 r1))] at g2905; cases g2905) | skip
        refine zSistore (m := 2) (k := 4) vr_67_31 rfl rfl (fun x2906 e2906 => ?_)
        cases e2906
        show zL zrx zi _ 67 33 [(4, _), (0, _), (1, _), (2, _), (3, _)] [] _ _ _
        refine zSaload (m := 1) (k := 0) vr_67_33 rfl rfl rfl ?_
        refine zLget vr_67_34 rfl (fun p2908 w2908 e2908 t2908 g2908 => ?_)
        cases e2908
        first | (rw [(st_16_11 hS)] at g2908; cases g2908) | (rw [(st_169_0 hS)] at g2908; cases g2908) | (rw [(st_fac hS (iN4 r1))] at g2908; cases g2908) | (rw [(st_fm hS (iN4 r1))] at g2908; cases g2908) | skip
        refine zLget vr_67_37 rfl (fun p2909 w2909 e2909 t2909 g2909 => ?_)
        cases e2909
        first | (rw [(st_16_11 hS)] at g2909; cases g2909) | (rw [(st_169_0 hS)] at g2909; cases g2909) | (rw [(st_fac hS (iN4 r1))] at g2909; cases g2909) | (rw [(st_fm hS (iN4 r1))] at g2909; cases g2909) | skip
        refine zSiload (m := 1) (k := 1) vr_67_40 rfl rfl rfl (fun x2910 e2910 => ?_)
        cases e2910
        refine zLaald vr_67_41 rfl (fun p2911 x2911 w2911 e2911 f2911 c2911 t2911 g2911 => ?_)
        cases e2911
        cases f2911
        first | (rw [(st_16_11 hS)] at g2911; cases g2911) | (rw [(st_169_0 hS)] at g2911; cases g2911) | (rw [(st_fac hS (iN4 r1))] at g2911; cases g2911) | (rw [(st_fm hS (iN4 r1))] at g2911; cases g2911) | skip
        refine zLget vr_67_42 rfl (fun p2912 w2912 e2912 t2912 g2912 => ?_)
        cases e2912
        first | (rw [(st_16_11 hS)] at g2912; cases g2912) | (rw [(st_169_0 hS)] at g2912; cases g2912) | (rw [(st_fac hS (iN4 r1))] at g2912; cases g2912) | (rw [(st_fm hS (iN4 r1))] at g2912; cases g2912) | skip
        refine zSiload (m := 1) (k := 2) vr_67_45 rfl rfl rfl (fun x2913 e2913 => ?_)
        cases e2913
        refine zSiload (m := 1) (k := 3) vr_67_46 rfl rfl rfl (fun x2914 e2914 => ?_)
        cases e2914
        refine zLiast vr_67_47 rfl (fun p2915 x2915 z2915 k2915 e2915 f2915 d2915 c2915 t2915 g2915 => ?_)
        cases e2915
        cases f2915
        cases d2915
        refine zSiload (m := 2) (k := 4) vr_67_48 rfl rfl rfl (fun x2916 e2916 => ?_)
        cases e2916
        refine zLiret vr_67_50 rfl (fun x2917 e2917 => ?_)
        cases e2917
        exact ⟨⟨⟨r1, r2⟩, r3⟩, _, rfl, g2915, (iv_of g2905).symm⟩
      · obtain ⟨rfl, q1, q2⟩ := q2897
        rw [zCat_no vh_67_14_1]
        exact ⟨q2, Or.inr ⟨rfl, ⟨r1, r2⟩, q1⟩⟩
    · obtain ⟨rfl, q1, q2⟩ := q2893
      rw [zCat_no vh_67_7_0]
      exact ⟨q2, Or.inl ⟨rfl, fun z => q1 z.2⟩⟩
  · obtain ⟨rfl, q1, q2⟩ := q2890
    rw [zCat_no vh_67_2_0]
    exact ⟨q2, Or.inl ⟨rfl, fun z => q1 z.1⟩⟩
theorem C_taste (n : Nat) (f s : Int32) (h : List zC) (u : Nat) (hS : Stc h) : zL zrx zi n 68 0 [(0, .ref 16), (1, .int f), (2, .int s)] [] h u (fun o h2 _ => match o with
  | .inl v => ((iN 4 f) ∧ rI (-3) 3 s) ∧ ∃ y : Int32, v = some (.int y) ∧ hPut h h2 (171 + 3 * f.toNatClampNeg) 2 (.int s) ∧ y = iv h (171 + 3 * f.toNatClampNeg) 2
  | .inr E => hExt h h2 ∧ ((E = 0 ∧ ¬ (iN 4 f)) ∨ (E = 1 ∧ (iN 4 f) ∧ ¬ rI (-3) 3 s))) := by
  refine zSiload (m := 1) (k := 1) vr_68_0 rfl rfl rfl (fun x2918 e2918 => ?_)
  cases e2918
  refine zSp0 (pc' := 2) (st' := .int (4) :: _) vr_68_1 rfl rfl ?_
  refine zScall vr_68_2 rfl rfl rfl (fun m2920 _ => C_num6 _ _ _ _ (m := 4) (by rfl)) (fun v2920 h2920 u2920 q2920 => ?_) (fun E2920 h2920 u2920 q2920 => ?_)
  · obtain ⟨eh2920, rfl, r1⟩ := q2920
    replace eh2920 := eh2920.symm
    subst eh2920
    show zL zrx zi _ 68 5 [(0, _), (1, _), (2, _)] [] _ _ _
    refine zSiload (m := 1) (k := 2) vr_68_5 rfl rfl rfl (fun x2921 e2921 => ?_)
    cases e2921
    refine zSp0 (pc' := 8) (st' := .int (-3) :: _) vr_68_6 rfl rfl ?_
    refine zSp0 (pc' := 9) (st' := .int (3) :: _) vr_68_8 rfl rfl ?_
    refine zScall vr_68_9 rfl rfl rfl (fun m2924 _ => C_val _ _ _ _ _ _) (fun v2924 h2924 u2924 q2924 => ?_) (fun E2924 h2924 u2924 q2924 => ?_)
    · obtain ⟨eh2924, rfl, r3⟩ := q2924
      replace eh2924 := eh2924.symm
      subst eh2924
      show zL zrx zi _ 68 12 [(0, _), (1, _), (2, _)] [] _ _ _
      refine zSaload (m := 1) (k := 0) vr_68_12 rfl rfl rfl ?_
      refine zLget vr_68_13 rfl (fun p2926 w2926 e2926 t2926 g2926 => ?_)
      cases e2926
      first | (rw [(st_16_11 hS)] at g2926; cases g2926) | (rw [(st_169_0 hS)] at g2926; cases g2926) | (rw [(st_fac hS (iN4 r1))] at g2926; cases g2926) | skip
      refine zLget vr_68_16 rfl (fun p2927 w2927 e2927 t2927 g2927 => ?_)
      cases e2927
      first | (rw [(st_16_11 hS)] at g2927; cases g2927) | (rw [(st_169_0 hS)] at g2927; cases g2927) | (rw [(st_fac hS (iN4 r1))] at g2927; cases g2927) | skip
      refine zSiload (m := 1) (k := 1) vr_68_19 rfl rfl rfl (fun x2928 e2928 => ?_)
      cases e2928
      refine zLaald vr_68_20 rfl (fun p2929 x2929 w2929 e2929 f2929 c2929 t2929 g2929 => ?_)
      cases e2929
      cases f2929
      first | (rw [(st_16_11 hS)] at g2929; cases g2929) | (rw [(st_169_0 hS)] at g2929; cases g2929) | (rw [(st_fac hS (iN4 r1))] at g2929; cases g2929) | skip
      refine zLget vr_68_21 rfl (fun p2930 w2930 e2930 t2930 g2930 => ?_)
      cases e2930
      first | (rw [(st_16_11 hS)] at g2930; cases g2930) | (rw [(st_169_0 hS)] at g2930; cases g2930) | (rw [(st_fac hS (iN4 r1))] at g2930; cases g2930) | skip
      refine zSistore (m := 1) (k := 3) vr_68_24 rfl rfl (fun x2931 e2931 => ?_)
      cases e2931
      show zL zrx zi _ 68 25 [(3, _), (0, _), (1, _), (2, _)] [] _ _ _
      refine zSaload (m := 1) (k := 0) vr_68_25 rfl rfl rfl ?_
      refine zLget vr_68_26 rfl (fun p2933 w2933 e2933 t2933 g2933 => ?_)
      cases e2933
      first | (rw [(st_16_11 hS)] at g2933; cases g2933) | (rw [(st_169_0 hS)] at g2933; cases g2933) | (rw [(st_fac hS (iN4 r1))] at g2933; cases g2933) | skip
      refine zLget vr_68_29 rfl (fun p2934 w2934 e2934 t2934 g2934 => ?_)
      cases e2934
      first | (rw [(st_16_11 hS)] at g2934; cases g2934) | (rw [(st_169_0 hS)] at g2934; cases g2934) | (rw [(st_fac hS (iN4 r1))] at g2934; cases g2934) | skip
      refine zSiload (m := 1) (k := 1) vr_68_32 rfl rfl rfl (fun x2935 e2935 => ?_)
      cases e2935
      refine zLaald vr_68_33 rfl (fun p2936 x2936 w2936 e2936 f2936 c2936 t2936 g2936 => ?_)
      cases e2936
      cases f2936
      first | (rw [(st_16_11 hS)] at g2936; cases g2936) | (rw [(st_169_0 hS)] at g2936; cases g2936) | (rw [(st_fac hS (iN4 r1))] at g2936; cases g2936) | skip
      refine zSiload (m := 1) (k := 2) vr_68_34 rfl rfl rfl (fun x2937 e2937 => ?_)
      cases e2937
      refine zLput vr_68_35 rfl (fun p2938 k2938 e2938 t2938 g2938 => ?_)
      cases e2938
      refine zSiload (m := 1) (k := 3) vr_68_38 rfl rfl rfl (fun x2939 e2939 => ?_)
      cases e2939
      refine zLiret vr_68_39 rfl (fun x2940 e2940 => ?_)
      cases e2940
      exact ⟨⟨r1, r3⟩, _, rfl, g2938, (iv_of g2930).symm⟩
    · obtain ⟨rfl, q1, q2⟩ := q2924
      rw [zCat_no vh_68_9_1]
      exact ⟨q2, Or.inr ⟨rfl, r1, q1⟩⟩
  · obtain ⟨rfl, q1, q2⟩ := q2920
    rw [zCat_no vh_68_2_0]
    exact ⟨q2, Or.inl ⟨rfl, fun z => q1 z⟩⟩
abbrev Q_Lseats (x f s : Int32) (h : List zC) : zK := fun o h2 _ => ∃ k : Int32, o = .inl (some (.int k)) ∧
  ((k = 0 ∧ ((iN 3 x ∧ iN 4 f) ∧ rI 0 60 s) ∧ ∃ (h1 : List zC) (y : Int32), hPut h h1 (173 + 3 * f.toNatClampNeg) x.toNatClampNeg (.int s) ∧ y = asC (fun k => iv h1 (173 + 3 * k) x.toNatClampNeg) 4 ∧ hPut h1 h2 238 0 (.long y.toInt64)) ∨ (k = 1 ∧ ¬ (iN 3 x ∧ iN 4 f) ∧ hExt h h2) ∨ (k = 2 ∧ (iN 3 x ∧ iN 4 f) ∧ ¬ rI 0 60 s ∧ hExt h h2))
theorem C_Lseats (n : Nat) (x f s : Int32) (h : List zC) (u : Nat) (hS : Stc h) : zL zrx zi n 217 0 [(0, .ref 16), (1, .int x), (2, .int f), (3, .int s), (4, .ref 238)] [] h u (Q_Lseats x f s h) := by
  refine zSaload (m := 2) (k := 4) vr_217_0 rfl rfl rfl ?_
  refine zSaload (m := 1) (k := 0) vr_217_2 rfl rfl rfl ?_
  refine zSiload (m := 1) (k := 1) vr_217_3 rfl rfl rfl (fun x2943 e2943 => ?_)
  cases e2943
  refine zSiload (m := 1) (k := 2) vr_217_4 rfl rfl rfl (fun x2944 e2944 => ?_)
  cases e2944
  refine zSiload (m := 1) (k := 3) vr_217_5 rfl rfl rfl (fun x2945 e2945 => ?_)
  cases e2945
  refine zScall vr_217_6 rfl rfl rfl (fun m2946 _ => C_seats _ _ _ _ _ _ hS) (fun v2946 h2946 u2946 q2946 => ?_) (fun E2946 h2946 u2946 q2946 => ?_)
  · obtain ⟨k1, y2946, rfl, k2, k3⟩ := q2946
    show zL zrx zi _ 217 9 [(0, _), (1, _), (2, _), (3, _), (4, _)] [_, _] _ _ _
    refine zS1 (f := fun x => .long x.toInt64) vr_217_9 rfl rfl (fun x2947 e2947 => ?_)
    cases e2947
    refine zLput vr_217_10 rfl (fun p2948 k2948 e2948 t2948 g2948 => ?_)
    cases e2948
    have gP := g2948
    refine zSgo (t := 24) vr_217_13 rfl rfl ?_
    refine zSp0 (pc' := 25) (st' := .int (0) :: _) vr_217_24 rfl rfl ?_
    refine zLiret vr_217_25 rfl (fun x2951 e2951 => ?_)
    cases e2951
    exact ⟨_, rfl, Or.inl ⟨rfl, k1, _, _, k2, k3, gP⟩⟩
  · obtain ⟨q1, ⟨rfl, z⟩ | ⟨rfl, z⟩⟩ := q2946
    · rw [zCat_hit (k := 5) (m := 2) vh_217_6_0 vr_217_16 rfl (by decide)]
      show zL zrx zi _ 217 18 [(0, _), (1, _), (2, _), (3, _), (4, _)] [] _ _ _
      refine zSp0 (pc' := 19) (st' := .int (1) :: _) vr_217_18 rfl rfl ?_
      refine zLiret vr_217_19 rfl (fun x2953 e2953 => ?_)
      cases e2953
      exact ⟨_, rfl, Or.inr (Or.inl ⟨rfl, z, q1⟩)⟩
    · rw [zCat_hit (k := 5) (m := 2) vh_217_6_1 vr_217_20 rfl (by decide)]
      show zL zrx zi _ 217 22 [(0, _), (1, _), (2, _), (3, _), (4, _)] [] _ _ _
      refine zSp0 (pc' := 23) (st' := .int (2) :: _) vr_217_22 rfl rfl ?_
      refine zLiret vr_217_23 rfl (fun x2955 e2955 => ?_)
      cases e2955
      exact ⟨_, rfl, Or.inr (Or.inr ⟨rfl, z.1, z.2, q1⟩)⟩
abbrev Q_Lmood (f m s : Int32) (h : List zC) : zK := fun o h2 _ => ∃ k : Int32, o = .inl (some (.int k)) ∧
  ((k = 0 ∧ ((iN 4 f ∧ iN 4 m) ∧ rI (-5) 5 s) ∧ ∃ (h1 : List zC) (y : Int32), hPut h h1 (172 + 3 * f.toNatClampNeg) m.toNatClampNeg (.int s) ∧ y = iv h (172 + 3 * f.toNatClampNeg) m.toNatClampNeg ∧ hPut h1 h2 238 0 (.long y.toInt64)) ∨ (k = 1 ∧ ¬ (iN 4 f ∧ iN 4 m) ∧ hExt h h2) ∨ (k = 2 ∧ (iN 4 f ∧ iN 4 m) ∧ ¬ rI (-5) 5 s ∧ hExt h h2))
theorem C_Lmood (n : Nat) (f m s : Int32) (h : List zC) (u : Nat) (hS : Stc h) : zL zrx zi n 218 0 [(0, .ref 16), (1, .int f), (2, .int m), (3, .int s), (4, .ref 238)] [] h u (Q_Lmood f m s h) := by
  refine zSaload (m := 2) (k := 4) vr_218_0 rfl rfl rfl ?_
  refine zSaload (m := 1) (k := 0) vr_218_2 rfl rfl rfl ?_
  refine zSiload (m := 1) (k := 1) vr_218_3 rfl rfl rfl (fun x2958 e2958 => ?_)
  cases e2958
  refine zSiload (m := 1) (k := 2) vr_218_4 rfl rfl rfl (fun x2959 e2959 => ?_)
  cases e2959
  refine zSiload (m := 1) (k := 3) vr_218_5 rfl rfl rfl (fun x2960 e2960 => ?_)
  cases e2960
  refine zScall vr_218_6 rfl rfl rfl (fun m2961 _ => C_mood _ _ _ _ _ _ hS) (fun v2961 h2961 u2961 q2961 => ?_) (fun E2961 h2961 u2961 q2961 => ?_)
  · obtain ⟨k1, y2961, rfl, k2, k3⟩ := q2961
    show zL zrx zi _ 218 9 [(0, _), (1, _), (2, _), (3, _), (4, _)] [_, _] _ _ _
    refine zS1 (f := fun x => .long x.toInt64) vr_218_9 rfl rfl (fun x2962 e2962 => ?_)
    cases e2962
    refine zLput vr_218_10 rfl (fun p2963 k2963 e2963 t2963 g2963 => ?_)
    cases e2963
    have gP := g2963
    refine zSgo (t := 24) vr_218_13 rfl rfl ?_
    refine zSp0 (pc' := 25) (st' := .int (0) :: _) vr_218_24 rfl rfl ?_
    refine zLiret vr_218_25 rfl (fun x2966 e2966 => ?_)
    cases e2966
    exact ⟨_, rfl, Or.inl ⟨rfl, k1, _, _, k2, k3, gP⟩⟩
  · obtain ⟨q1, ⟨rfl, z⟩ | ⟨rfl, z⟩⟩ := q2961
    · rw [zCat_hit (k := 5) (m := 2) vh_218_6_0 vr_218_16 rfl (by decide)]
      show zL zrx zi _ 218 18 [(0, _), (1, _), (2, _), (3, _), (4, _)] [] _ _ _
      refine zSp0 (pc' := 19) (st' := .int (1) :: _) vr_218_18 rfl rfl ?_
      refine zLiret vr_218_19 rfl (fun x2968 e2968 => ?_)
      cases e2968
      exact ⟨_, rfl, Or.inr (Or.inl ⟨rfl, z, q1⟩)⟩
    · rw [zCat_hit (k := 5) (m := 2) vh_218_6_1 vr_218_20 rfl (by decide)]
      show zL zrx zi _ 218 22 [(0, _), (1, _), (2, _), (3, _), (4, _)] [] _ _ _
      refine zSp0 (pc' := 23) (st' := .int (2) :: _) vr_218_22 rfl rfl ?_
      refine zLiret vr_218_23 rfl (fun x2970 e2970 => ?_)
      cases e2970
      exact ⟨_, rfl, Or.inr (Or.inr ⟨rfl, z.1, z.2, q1⟩)⟩
abbrev Q_Ltaste (f s : Int32) (h : List zC) : zK := fun o h2 _ => ∃ k : Int32, o = .inl (some (.int k)) ∧
  ((k = 0 ∧ ((iN 4 f) ∧ rI (-3) 3 s) ∧ ∃ (h1 : List zC) (y : Int32), hPut h h1 (171 + 3 * f.toNatClampNeg) 2 (.int s) ∧ y = iv h (171 + 3 * f.toNatClampNeg) 2 ∧ hPut h1 h2 238 0 (.long y.toInt64)) ∨ (k = 1 ∧ ¬ (iN 4 f) ∧ hExt h h2) ∨ (k = 2 ∧ (iN 4 f) ∧ ¬ rI (-3) 3 s ∧ hExt h h2))
theorem C_Ltaste (n : Nat) (f s : Int32) (h : List zC) (u : Nat) (hS : Stc h) : zL zrx zi n 219 0 [(0, .ref 16), (1, .int f), (2, .int s), (3, .ref 238)] [] h u (Q_Ltaste f s h) := by
  refine zSaload (m := 1) (k := 3) vr_219_0 rfl rfl rfl ?_
  refine zSaload (m := 1) (k := 0) vr_219_1 rfl rfl rfl ?_
  refine zSiload (m := 1) (k := 1) vr_219_2 rfl rfl rfl (fun x2973 e2973 => ?_)
  cases e2973
  refine zSiload (m := 1) (k := 2) vr_219_3 rfl rfl rfl (fun x2974 e2974 => ?_)
  cases e2974
  refine zScall vr_219_4 rfl rfl rfl (fun m2975 _ => C_taste _ _ _ _ _ hS) (fun v2975 h2975 u2975 q2975 => ?_) (fun E2975 h2975 u2975 q2975 => ?_)
  · obtain ⟨k1, y2975, rfl, k2, k3⟩ := q2975
    show zL zrx zi _ 219 7 [(0, _), (1, _), (2, _), (3, _)] [_, _] _ _ _
    refine zS1 (f := fun x => .long x.toInt64) vr_219_7 rfl rfl (fun x2976 e2976 => ?_)
    cases e2976
    refine zLput vr_219_8 rfl (fun p2977 k2977 e2977 t2977 g2977 => ?_)
    cases e2977
    have gP := g2977
    refine zSgo (t := 22) vr_219_11 rfl rfl ?_
    refine zSp0 (pc' := 23) (st' := .int (0) :: _) vr_219_22 rfl rfl ?_
    refine zLiret vr_219_23 rfl (fun x2980 e2980 => ?_)
    cases e2980
    exact ⟨_, rfl, Or.inl ⟨rfl, k1, _, _, k2, k3, gP⟩⟩
  · obtain ⟨q1, ⟨rfl, z⟩ | ⟨rfl, z⟩⟩ := q2975
    · rw [zCat_hit (k := 4) (m := 2) vh_219_4_0 vr_219_14 rfl (by decide)]
      show zL zrx zi _ 219 16 [(0, _), (1, _), (2, _), (3, _)] [] _ _ _
      refine zSp0 (pc' := 17) (st' := .int (1) :: _) vr_219_16 rfl rfl ?_
      refine zLiret vr_219_17 rfl (fun x2982 e2982 => ?_)
      cases e2982
      exact ⟨_, rfl, Or.inr (Or.inl ⟨rfl, z, q1⟩)⟩
    · rw [zCat_hit (k := 4) (m := 2) vh_219_4_1 vr_219_18 rfl (by decide)]
      show zL zrx zi _ 219 20 [(0, _), (1, _), (2, _), (3, _)] [] _ _ _
      refine zSp0 (pc' := 21) (st' := .int (2) :: _) vr_219_20 rfl rfl ?_
      refine zLiret vr_219_21 rfl (fun x2984 e2984 => ?_)
      cases e2984
      exact ⟨_, rfl, Or.inr (Or.inr ⟨rfl, z.1, z.2, q1⟩)⟩
abbrev Q_mseats (x f s : Int32) (h : List zC) : zK := fun o h2 _ => ∃ (y : Int32) (h0 : List zC), o = .inl (some (.int y)) ∧ hPut h h0 213 0 (.int 0) ∧
  ((((iN 3 x ∧ iN 4 f) ∧ rI 0 60 s) ∧ hPut h0 h2 (227 + x.toNatClampNeg) f.toNatClampNeg (.int s) ∧ y = asC (fun k => iv h2 (227 + x.toNatClampNeg) k) 4) ∨ (¬ (iN 3 x ∧ iN 4 f) ∧ hPut h0 h2 213 0 (.int 1)) ∨ ((iN 3 x ∧ iN 4 f) ∧ ¬ rI 0 60 s ∧ hPut h0 h2 213 0 (.int 2)))
theorem C_mseats (n : Nat) (x f s : Int32) (h : List zC) (u : Nat) (hS : Stc h) : zL zrx zi n 163 0 [(0, .ref 213), (1, .int x), (2, .int f), (3, .int s)] [] h u (Q_mseats x f s h) := by
  refine zSaload (m := 1) (k := 0) vr_163_0 rfl rfl rfl ?_
  refine zSp0 (pc' := 2) (st' := .int (0) :: _) vr_163_1 rfl rfl ?_
  refine zLput vr_163_2 rfl (fun p2987 k2987 e2987 t2987 g2987 => ?_)
  cases e2987
  have t0 := g2987
  have hS0 := hS.thr t0
  refine zSiload (m := 1) (k := 1) vr_163_5 rfl rfl rfl (fun x2988 e2988 => ?_)
  cases e2988
  refine zSp0 (pc' := 7) (st' := .int (0) :: _) vr_163_6 rfl rfl ?_
  refine zSp0 (pc' := 8) (st' := .int (2) :: _) vr_163_7 rfl rfl ?_
  refine zScall vr_163_8 rfl rfl rfl (fun m2991 _ => C_in _ _ _ _ _ _) (fun v2991 h2991 u2991 q2991 => ?_) (fun E2991 h2991 u2991 q2991 => ?_)
  · obtain ⟨eh2991, z2991⟩ := q2991
    replace eh2991 := eh2991.symm
    subst eh2991
    cases z2991
    show zL zrx zi _ 163 11 [(0, _), (1, _), (2, _), (3, _)] [_] _ _ _
    refine zSb1 (f := fun x => decide (x = 0)) (off := 12) (t := 23) vr_163_11 rfl rfl rfl (fun x2992 e2992 q2992 => ?_) (fun x2992 e2992 q2992 => ?_)
    · cases e2992
      refine zSaload (m := 1) (k := 0) vr_163_23 rfl rfl rfl ?_
      refine zSp0 (pc' := 25) (st' := .int (1) :: _) vr_163_24 rfl rfl ?_
      refine zScall vr_163_25 rfl rfl rfl (fun m2995 _ => C_no _ _ _ _ _) (fun v2995 h2995 u2995 q2995 => ?_) (fun E2995 h2995 u2995 q2995 => ?_)
      · obtain ⟨gn2995, z2995⟩ := q2995
        cases z2995
        show zL zrx zi _ 163 28 [(0, _), (1, _), (2, _), (3, _)] [_] _ _ _
        refine zLiret vr_163_28 rfl (fun x2996 e2996 => ?_)
        cases e2996
        first
          | exact ⟨_, _, rfl, t0, Or.inr (Or.inl ⟨fun z => in_n (x := f) (hi := 3) (m := 4) (by decide) (by simpa using q2983) z.2, gn2995⟩)⟩
          | exact ⟨_, _, rfl, t0, Or.inr (Or.inl ⟨fun z => in_n (x := x) (hi := 2) (m := 3) (by decide) (of_decide_eq_true q2992) z.1, gn2995⟩)⟩
      · obtain ⟨-, z⟩ := q2995
        cases z
    · cases e2992
      have r1 : iN 3 x := in_y (x := x) (hi := 2) (m := 3) (by decide) (by simpa using q2992)
      refine zSiload (m := 1) (k := 2) vr_163_14 rfl rfl rfl (fun x2997 e2997 => ?_)
      cases e2997
      refine zSp0 (pc' := 16) (st' := .int (0) :: _) vr_163_15 rfl rfl ?_
      refine zSp0 (pc' := 17) (st' := .int (3) :: _) vr_163_16 rfl rfl ?_
      refine zScall vr_163_17 rfl rfl rfl (fun m3000 _ => C_in _ _ _ _ _ _) (fun v3000 h3000 u3000 q3000 => ?_) (fun E3000 h3000 u3000 q3000 => ?_)
      · obtain ⟨eh3000, z3000⟩ := q3000
        replace eh3000 := eh3000.symm
        subst eh3000
        cases z3000
        show zL zrx zi _ 163 20 [(0, _), (1, _), (2, _), (3, _)] [_] _ _ _
        refine zSb1 (f := fun x => decide (¬ x = 0)) (off := 9) (t := 29) vr_163_20 rfl rfl rfl (fun x3001 e3001 q3001 => ?_) (fun x3001 e3001 q3001 => ?_)
        · cases e3001
          have r2 : iN 4 f := in_y (x := f) (hi := 3) (m := 4) (by decide) (of_decide_eq_true q3001)
          refine zSiload (m := 1) (k := 3) vr_163_29 rfl rfl rfl (fun x3002 e3002 => ?_)
          cases e3002
          refine zSp0 (pc' := 31) (st' := .int (0) :: _) vr_163_30 rfl rfl ?_
          refine zSp0 (pc' := 33) (st' := .int (60) :: _) vr_163_31 rfl rfl ?_
          refine zScall vr_163_33 rfl rfl rfl (fun m3005 _ => C_in _ _ _ _ _ _) (fun v3005 h3005 u3005 q3005 => ?_) (fun E3005 h3005 u3005 q3005 => ?_)
          · obtain ⟨eh3005, z3005⟩ := q3005
            replace eh3005 := eh3005.symm
            subst eh3005
            cases z3005
            show zL zrx zi _ 163 36 [(0, _), (1, _), (2, _), (3, _)] [_] _ _ _
            refine zSb1 (f := fun x => decide (¬ x = 0)) (off := 9) (t := 45) vr_163_36 rfl rfl rfl (fun x3006 e3006 q3006 => ?_) (fun x3006 e3006 q3006 => ?_)
            · cases e3006
              refine zSaload (m := 1) (k := 0) vr_163_45 rfl rfl rfl ?_
              refine zLget vr_163_46 rfl (fun p3008 w3008 e3008 t3008 g3008 => ?_)
              cases e3008
              first | (rw [(st_213_11 hS0)] at g3008; cases g3008) | (rw [(st_hs hS0 (iN3 r1))] at g3008; cases g3008) | skip
              refine zSiload (m := 1) (k := 1) vr_163_49 rfl rfl rfl (fun x3009 e3009 => ?_)
              cases e3009
              refine zLaald vr_163_50 rfl (fun p3010 x3010 w3010 e3010 f3010 c3010 t3010 g3010 => ?_)
              cases e3010
              cases f3010
              first | (rw [(st_213_11 hS0)] at g3010; cases g3010) | (rw [(st_hs hS0 (iN3 r1))] at g3010; cases g3010) | skip
              refine zSiload (m := 1) (k := 2) vr_163_51 rfl rfl rfl (fun x3011 e3011 => ?_)
              cases e3011
              refine zSiload (m := 1) (k := 3) vr_163_52 rfl rfl rfl (fun x3012 e3012 => ?_)
              cases e3012
              refine zLiast vr_163_53 rfl (fun p3013 x3013 z3013 k3013 e3013 f3013 d3013 c3013 t3013 g3013 => ?_)
              cases e3013
              cases f3013
              cases d3013
              have hS1 := hS0.put g3013 (row_st (Or.inr (Or.inl (by have := iN3 r1; omega))))
              refine zSaload (m := 1) (k := 0) vr_163_54 rfl rfl rfl ?_
              refine zLget vr_163_55 rfl (fun p3015 w3015 e3015 t3015 g3015 => ?_)
              cases e3015
              first | (rw [(st_213_11 hS1)] at g3015; cases g3015) | (rw [(st_hs hS1 (iN3 r1))] at g3015; cases g3015) | skip
              refine zSiload (m := 1) (k := 1) vr_163_58 rfl rfl rfl (fun x3016 e3016 => ?_)
              cases e3016
              refine zLaald vr_163_59 rfl (fun p3017 x3017 w3017 e3017 f3017 c3017 t3017 g3017 => ?_)
              cases e3017
              cases f3017
              first | (rw [(st_213_11 hS1)] at g3017; cases g3017) | (rw [(st_hs hS1 (iN3 r1))] at g3017; cases g3017) | skip
              refine zSp0 (pc' := 61) (st' := .int (0) :: _) vr_163_60 rfl rfl ?_
              refine zLiald vr_163_61 rfl (fun p3019 x3019 w3019 e3019 f3019 c3019 t3019 g3019 => ?_)
              cases e3019
              cases f3019
              first | (rw [(st_213_11 hS1)] at g3019; cases g3019) | (rw [(st_hs hS1 (iN3 r1))] at g3019; cases g3019) | skip
              refine zSaload (m := 1) (k := 0) vr_163_62 rfl rfl rfl ?_
              refine zLget vr_163_63 rfl (fun p3021 w3021 e3021 t3021 g3021 => ?_)
              cases e3021
              first | (rw [(st_213_11 hS1)] at g3021; cases g3021) | (rw [(st_hs hS1 (iN3 r1))] at g3021; cases g3021) | skip
              refine zSiload (m := 1) (k := 1) vr_163_66 rfl rfl rfl (fun x3022 e3022 => ?_)
              cases e3022
              refine zLaald vr_163_67 rfl (fun p3023 x3023 w3023 e3023 f3023 c3023 t3023 g3023 => ?_)
              cases e3023
              cases f3023
              first | (rw [(st_213_11 hS1)] at g3023; cases g3023) | (rw [(st_hs hS1 (iN3 r1))] at g3023; cases g3023) | skip
              refine zSp0 (pc' := 69) (st' := .int (1) :: _) vr_163_68 rfl rfl ?_
              refine zLiald vr_163_69 rfl (fun p3025 x3025 w3025 e3025 f3025 c3025 t3025 g3025 => ?_)
              cases e3025
              cases f3025
              first | (rw [(st_213_11 hS1)] at g3025; cases g3025) | (rw [(st_hs hS1 (iN3 r1))] at g3025; cases g3025) | skip
              refine zS2 (f := fun x y => .int (x + y)) vr_163_70 rfl rfl (fun x3026 y3026 e3026 f3026 => ?_)
              cases e3026
              cases f3026
              refine zSaload (m := 1) (k := 0) vr_163_71 rfl rfl rfl ?_
              refine zLget vr_163_72 rfl (fun p3028 w3028 e3028 t3028 g3028 => ?_)
              cases e3028
              first | (rw [(st_213_11 hS1)] at g3028; cases g3028) | (rw [(st_hs hS1 (iN3 r1))] at g3028; cases g3028) | skip
              refine zSiload (m := 1) (k := 1) vr_163_75 rfl rfl rfl (fun x3029 e3029 => ?_)
              cases e3029
              refine zLaald vr_163_76 rfl (fun p3030 x3030 w3030 e3030 f3030 c3030 t3030 g3030 => ?_)
              cases e3030
              cases f3030
              first | (rw [(st_213_11 hS1)] at g3030; cases g3030) | (rw [(st_hs hS1 (iN3 r1))] at g3030; cases g3030) | skip
              refine zSp0 (pc' := 78) (st' := .int (2) :: _) vr_163_77 rfl rfl ?_
              refine zLiald vr_163_78 rfl (fun p3032 x3032 w3032 e3032 f3032 c3032 t3032 g3032 => ?_)
              cases e3032
              cases f3032
              first | (rw [(st_213_11 hS1)] at g3032; cases g3032) | (rw [(st_hs hS1 (iN3 r1))] at g3032; cases g3032) | skip
              refine zS2 (f := fun x y => .int (x + y)) vr_163_79 rfl rfl (fun x3033 y3033 e3033 f3033 => ?_)
              cases e3033
              cases f3033
              refine zSaload (m := 1) (k := 0) vr_163_80 rfl rfl rfl ?_
              refine zLget vr_163_81 rfl (fun p3035 w3035 e3035 t3035 g3035 => ?_)
              cases e3035
              first | (rw [(st_213_11 hS1)] at g3035; cases g3035) | (rw [(st_hs hS1 (iN3 r1))] at g3035; cases g3035) | skip
              refine zSiload (m := 1) (k := 1) vr_163_84 rfl rfl rfl (fun x3036 e3036 => ?_)
              cases e3036
              refine zLaald vr_163_85 rfl (fun p3037 x3037 w3037 e3037 f3037 c3037 t3037 g3037 => ?_)
              cases e3037
              cases f3037
              first | (rw [(st_213_11 hS1)] at g3037; cases g3037) | (rw [(st_hs hS1 (iN3 r1))] at g3037; cases g3037) | skip
              refine zSp0 (pc' := 87) (st' := .int (3) :: _) vr_163_86 rfl rfl ?_
              refine zLiald vr_163_87 rfl (fun p3039 x3039 w3039 e3039 f3039 c3039 t3039 g3039 => ?_)
              cases e3039
              cases f3039
              first | (rw [(st_213_11 hS1)] at g3039; cases g3039) | (rw [(st_hs hS1 (iN3 r1))] at g3039; cases g3039) | skip
              refine zS2 (f := fun x y => .int (x + y)) vr_163_88 rfl rfl (fun x3040 y3040 e3040 f3040 => ?_)
              cases e3040
              cases f3040
              refine zLiret vr_163_89 rfl (fun x3041 e3041 => ?_)
              cases e3041
              refine ⟨_, _, rfl, t0, Or.inl ⟨⟨⟨r1, r2⟩, inB_y (of_decide_eq_true q3006)⟩, g3013, ?_⟩⟩
              rw [asC4, ← iv_of g3019, ← iv_of g3025, ← iv_of g3032, ← iv_of g3039]
              rfl
            · cases e3006
              refine zSaload (m := 1) (k := 0) vr_163_39 rfl rfl rfl ?_
              refine zSp0 (pc' := 41) (st' := .int (2) :: _) vr_163_40 rfl rfl ?_
              refine zScall vr_163_41 rfl rfl rfl (fun m3044 _ => C_no _ _ _ _ _) (fun v3044 h3044 u3044 q3044 => ?_) (fun E3044 h3044 u3044 q3044 => ?_)
              · obtain ⟨gn3044, z3044⟩ := q3044
                cases z3044
                show zL zrx zi _ 163 44 [(0, _), (1, _), (2, _), (3, _)] [_] _ _ _
                refine zLiret vr_163_44 rfl (fun x3045 e3045 => ?_)
                cases e3045
                exact ⟨_, _, rfl, t0, Or.inr (Or.inr ⟨⟨r1, r2⟩, fun z => inB_n (by simpa using q3006) z, gn3044⟩)⟩
              · obtain ⟨-, z⟩ := q3044
                cases z
          · obtain ⟨-, z⟩ := q3005
            cases z
        · cases e3001
          refine zSaload (m := 1) (k := 0) vr_163_23 rfl rfl rfl ?_
          refine zSp0 (pc' := 25) (st' := .int (1) :: _) vr_163_24 rfl rfl ?_
          refine zScall vr_163_25 rfl rfl rfl (fun m3048 _ => C_no _ _ _ _ _) (fun v3048 h3048 u3048 q3048 => ?_) (fun E3048 h3048 u3048 q3048 => ?_)
          · obtain ⟨gn3048, z3048⟩ := q3048
            cases z3048
            show zL zrx zi _ 163 28 [(0, _), (1, _), (2, _), (3, _)] [_] _ _ _
            refine zLiret vr_163_28 rfl (fun x3049 e3049 => ?_)
            cases e3049
            first
              | exact ⟨_, _, rfl, t0, Or.inr (Or.inl ⟨fun z => in_n (x := f) (hi := 3) (m := 4) (by decide) (by simpa using q3001) z.2, gn3048⟩)⟩
              | exact ⟨_, _, rfl, t0, Or.inr (Or.inl ⟨fun z => in_n (x := x) (hi := 2) (m := 3) (by decide) (of_decide_eq_true q2992) z.1, gn3048⟩)⟩
          · obtain ⟨-, z⟩ := q3048
            cases z
      · obtain ⟨-, z⟩ := q3000
        cases z
  · obtain ⟨-, z⟩ := q2991
    cases z
abbrev Q_mmood (f m s : Int32) (h : List zC) : zK := fun o h2 _ => ∃ (y : Int32) (h0 : List zC), o = .inl (some (.int y)) ∧ hPut h h0 213 0 (.int 0) ∧
  ((((iN 4 f ∧ iN 4 m) ∧ rI (-5) 5 s) ∧ hPut h0 h2 (231 + f.toNatClampNeg) m.toNatClampNeg (.int s) ∧ y = iv h0 (231 + f.toNatClampNeg) m.toNatClampNeg) ∨ (¬ (iN 4 f ∧ iN 4 m) ∧ hPut h0 h2 213 0 (.int 1)) ∨ ((iN 4 f ∧ iN 4 m) ∧ ¬ rI (-5) 5 s ∧ hPut h0 h2 213 0 (.int 2)))
theorem C_mmood (n : Nat) (f m s : Int32) (h : List zC) (u : Nat) (hS : Stc h) : zL zrx zi n 164 0 [(0, .ref 213), (1, .int f), (2, .int m), (3, .int s)] [] h u (Q_mmood f m s h) := by
  refine zSaload (m := 1) (k := 0) vr_164_0 rfl rfl rfl ?_
  refine zSp0 (pc' := 2) (st' := .int (0) :: _) vr_164_1 rfl rfl ?_
  refine zLput vr_164_2 rfl (fun p3052 k3052 e3052 t3052 g3052 => ?_)
  cases e3052
  have t0 := g3052
  have hS0 := hS.thr t0
  refine zSiload (m := 1) (k := 1) vr_164_5 rfl rfl rfl (fun x3053 e3053 => ?_)
  cases e3053
  refine zSp0 (pc' := 7) (st' := .int (0) :: _) vr_164_6 rfl rfl ?_
  refine zSp0 (pc' := 8) (st' := .int (3) :: _) vr_164_7 rfl rfl ?_
  refine zScall vr_164_8 rfl rfl rfl (fun m3056 _ => C_in _ _ _ _ _ _) (fun v3056 h3056 u3056 q3056 => ?_) (fun E3056 h3056 u3056 q3056 => ?_)
  · obtain ⟨eh3056, z3056⟩ := q3056
    replace eh3056 := eh3056.symm
    subst eh3056
    cases z3056
    show zL zrx zi _ 164 11 [(0, _), (1, _), (2, _), (3, _)] [_] _ _ _
    refine zSb1 (f := fun x => decide (x = 0)) (off := 12) (t := 23) vr_164_11 rfl rfl rfl (fun x3057 e3057 q3057 => ?_) (fun x3057 e3057 q3057 => ?_)
    · cases e3057
      refine zSaload (m := 1) (k := 0) vr_164_23 rfl rfl rfl ?_
      refine zSp0 (pc' := 25) (st' := .int (1) :: _) vr_164_24 rfl rfl ?_
      refine zScall vr_164_25 rfl rfl rfl (fun m3060 _ => C_no _ _ _ _ _) (fun v3060 h3060 u3060 q3060 => ?_) (fun E3060 h3060 u3060 q3060 => ?_)
      · obtain ⟨gn3060, z3060⟩ := q3060
        cases z3060
        show zL zrx zi _ 164 28 [(0, _), (1, _), (2, _), (3, _)] [_] _ _ _
        refine zLiret vr_164_28 rfl (fun x3061 e3061 => ?_)
        cases e3061
        first
          | exact ⟨_, _, rfl, t0, Or.inr (Or.inl ⟨fun z => in_n (x := m) (hi := 3) (m := 4) (by decide) (by simpa using q3001) z.2, gn3060⟩)⟩
          | exact ⟨_, _, rfl, t0, Or.inr (Or.inl ⟨fun z => in_n (x := f) (hi := 3) (m := 4) (by decide) (of_decide_eq_true q3057) z.1, gn3060⟩)⟩
      · obtain ⟨-, z⟩ := q3060
        cases z
    · cases e3057
      have r1 : iN 4 f := in_y (x := f) (hi := 3) (m := 4) (by decide) (by simpa using q3057)
      refine zSiload (m := 1) (k := 2) vr_164_14 rfl rfl rfl (fun x3062 e3062 => ?_)
      cases e3062
      refine zSp0 (pc' := 16) (st' := .int (0) :: _) vr_164_15 rfl rfl ?_
      refine zSp0 (pc' := 17) (st' := .int (3) :: _) vr_164_16 rfl rfl ?_
      refine zScall vr_164_17 rfl rfl rfl (fun m3065 _ => C_in _ _ _ _ _ _) (fun v3065 h3065 u3065 q3065 => ?_) (fun E3065 h3065 u3065 q3065 => ?_)
      · obtain ⟨eh3065, z3065⟩ := q3065
        replace eh3065 := eh3065.symm
        subst eh3065
        cases z3065
        show zL zrx zi _ 164 20 [(0, _), (1, _), (2, _), (3, _)] [_] _ _ _
        refine zSb1 (f := fun x => decide (¬ x = 0)) (off := 9) (t := 29) vr_164_20 rfl rfl rfl (fun x3066 e3066 q3066 => ?_) (fun x3066 e3066 q3066 => ?_)
        · cases e3066
          have r2 : iN 4 m := in_y (x := m) (hi := 3) (m := 4) (by decide) (of_decide_eq_true q3066)
          refine zSiload (m := 1) (k := 3) vr_164_29 rfl rfl rfl (fun x3067 e3067 => ?_)
          cases e3067
          refine zSp0 (pc' := 32) (st' := .int (-5) :: _) vr_164_30 rfl rfl ?_
          refine zSp0 (pc' := 33) (st' := .int (5) :: _) vr_164_32 rfl rfl ?_
          refine zScall vr_164_33 rfl rfl rfl (fun m3070 _ => C_in _ _ _ _ _ _) (fun v3070 h3070 u3070 q3070 => ?_) (fun E3070 h3070 u3070 q3070 => ?_)
          · obtain ⟨eh3070, z3070⟩ := q3070
            replace eh3070 := eh3070.symm
            subst eh3070
            cases z3070
            show zL zrx zi _ 164 36 [(0, _), (1, _), (2, _), (3, _)] [_] _ _ _
            refine zSb1 (f := fun x => decide (¬ x = 0)) (off := 9) (t := 45) vr_164_36 rfl rfl rfl (fun x3071 e3071 q3071 => ?_) (fun x3071 e3071 q3071 => ?_)
            · cases e3071
              refine zSaload (m := 1) (k := 0) vr_164_45 rfl rfl rfl ?_
              refine zLget vr_164_46 rfl (fun p3073 w3073 e3073 t3073 g3073 => ?_)
              cases e3073
              first | (rw [(st_213_12 hS0)] at g3073; cases g3073) | (rw [(st_mr hS0 (iN4 r1))] at g3073; cases g3073) | skip
              refine zSiload (m := 1) (k := 1) vr_164_49 rfl rfl rfl (fun x3074 e3074 => ?_)
              cases e3074
              refine zLaald vr_164_50 rfl (fun p3075 x3075 w3075 e3075 f3075 c3075 t3075 g3075 => ?_)
              cases e3075
              cases f3075
              first | (rw [(st_213_12 hS0)] at g3075; cases g3075) | (rw [(st_mr hS0 (iN4 r1))] at g3075; cases g3075) | skip
              refine zSiload (m := 1) (k := 2) vr_164_51 rfl rfl rfl (fun x3076 e3076 => ?_)
              cases e3076
              refine zLiald vr_164_52 rfl (fun p3077 x3077 w3077 e3077 f3077 c3077 t3077 g3077 => ?_)
              cases e3077
              cases f3077
              first | (rw [(st_213_12 hS0)] at g3077; cases g3077) | (rw [(st_mr hS0 (iN4 r1))] at g3077; cases g3077) | skip
              refine zSistore (m := 2) (k := 4) vr_164_53 rfl rfl (fun x3078 e3078 => ?_)
              cases e3078
              show zL zrx zi _ 164 55 [(4, _), (0, _), (1, _), (2, _), (3, _)] [] _ _ _
              refine zSaload (m := 1) (k := 0) vr_164_55 rfl rfl rfl ?_
              refine zLget vr_164_56 rfl (fun p3080 w3080 e3080 t3080 g3080 => ?_)
              cases e3080
              first | (rw [(st_213_12 hS0)] at g3080; cases g3080) | (rw [(st_mr hS0 (iN4 r1))] at g3080; cases g3080) | skip
              refine zSiload (m := 1) (k := 1) vr_164_59 rfl rfl rfl (fun x3081 e3081 => ?_)
              cases e3081
              refine zLaald vr_164_60 rfl (fun p3082 x3082 w3082 e3082 f3082 c3082 t3082 g3082 => ?_)
              cases e3082
              cases f3082
              first | (rw [(st_213_12 hS0)] at g3082; cases g3082) | (rw [(st_mr hS0 (iN4 r1))] at g3082; cases g3082) | skip
              refine zSiload (m := 1) (k := 2) vr_164_61 rfl rfl rfl (fun x3083 e3083 => ?_)
              cases e3083
              refine zSiload (m := 1) (k := 3) vr_164_62 rfl rfl rfl (fun x3084 e3084 => ?_)
              cases e3084
              refine zLiast vr_164_63 rfl (fun p3085 x3085 z3085 k3085 e3085 f3085 d3085 c3085 t3085 g3085 => ?_)
              cases e3085
              cases f3085
              cases d3085
              refine zSiload (m := 2) (k := 4) vr_164_64 rfl rfl rfl (fun x3086 e3086 => ?_)
              cases e3086
              refine zLiret vr_164_66 rfl (fun x3087 e3087 => ?_)
              cases e3087
              exact ⟨_, _, rfl, t0, Or.inl ⟨⟨⟨r1, r2⟩, inB_y (of_decide_eq_true q3071)⟩, g3085, (iv_of g3077).symm⟩⟩
            · cases e3071
              refine zSaload (m := 1) (k := 0) vr_164_39 rfl rfl rfl ?_
              refine zSp0 (pc' := 41) (st' := .int (2) :: _) vr_164_40 rfl rfl ?_
              refine zScall vr_164_41 rfl rfl rfl (fun m3090 _ => C_no _ _ _ _ _) (fun v3090 h3090 u3090 q3090 => ?_) (fun E3090 h3090 u3090 q3090 => ?_)
              · obtain ⟨gn3090, z3090⟩ := q3090
                cases z3090
                show zL zrx zi _ 164 44 [(0, _), (1, _), (2, _), (3, _)] [_] _ _ _
                refine zLiret vr_164_44 rfl (fun x3091 e3091 => ?_)
                cases e3091
                exact ⟨_, _, rfl, t0, Or.inr (Or.inr ⟨⟨r1, r2⟩, fun z => inB_n (by simpa using q3071) z, gn3090⟩)⟩
              · obtain ⟨-, z⟩ := q3090
                cases z
          · obtain ⟨-, z⟩ := q3070
            cases z
        · cases e3066
          refine zSaload (m := 1) (k := 0) vr_164_23 rfl rfl rfl ?_
          refine zSp0 (pc' := 25) (st' := .int (1) :: _) vr_164_24 rfl rfl ?_
          refine zScall vr_164_25 rfl rfl rfl (fun m3094 _ => C_no _ _ _ _ _) (fun v3094 h3094 u3094 q3094 => ?_) (fun E3094 h3094 u3094 q3094 => ?_)
          · obtain ⟨gn3094, z3094⟩ := q3094
            cases z3094
            show zL zrx zi _ 164 28 [(0, _), (1, _), (2, _), (3, _)] [_] _ _ _
            refine zLiret vr_164_28 rfl (fun x3095 e3095 => ?_)
            cases e3095
            first
              | exact ⟨_, _, rfl, t0, Or.inr (Or.inl ⟨fun z => in_n (x := m) (hi := 3) (m := 4) (by decide) (by simpa using q3066) z.2, gn3094⟩)⟩
              | exact ⟨_, _, rfl, t0, Or.inr (Or.inl ⟨fun z => in_n (x := f) (hi := 3) (m := 4) (by decide) (of_decide_eq_true q3057) z.1, gn3094⟩)⟩
          · obtain ⟨-, z⟩ := q3094
            cases z
      · obtain ⟨-, z⟩ := q3065
        cases z
  · obtain ⟨-, z⟩ := q3056
    cases z
abbrev Q_mtaste (f s : Int32) (h : List zC) : zK := fun o h2 _ => ∃ (y : Int32) (h0 : List zC), o = .inl (some (.int y)) ∧ hPut h h0 213 0 (.int 0) ∧
  ((((iN 4 f) ∧ rI (-3) 3 s) ∧ hPut h0 h2 235 f.toNatClampNeg (.int s) ∧ y = iv h0 235 f.toNatClampNeg) ∨ (¬ (iN 4 f) ∧ hPut h0 h2 213 0 (.int 1)) ∨ ((iN 4 f) ∧ ¬ rI (-3) 3 s ∧ hPut h0 h2 213 0 (.int 2)))
theorem C_mtaste (n : Nat) (f s : Int32) (h : List zC) (u : Nat) (hS : Stc h) : zL zrx zi n 165 0 [(0, .ref 213), (1, .int f), (2, .int s)] [] h u (Q_mtaste f s h) := by
  refine zSaload (m := 1) (k := 0) vr_165_0 rfl rfl rfl ?_
  refine zSp0 (pc' := 2) (st' := .int (0) :: _) vr_165_1 rfl rfl ?_
  refine zLput vr_165_2 rfl (fun p3098 k3098 e3098 t3098 g3098 => ?_)
  cases e3098
  have t0 := g3098
  have hS0 := hS.thr t0
  refine zSiload (m := 1) (k := 1) vr_165_5 rfl rfl rfl (fun x3099 e3099 => ?_)
  cases e3099
  refine zSp0 (pc' := 7) (st' := .int (0) :: _) vr_165_6 rfl rfl ?_
  refine zSp0 (pc' := 8) (st' := .int (3) :: _) vr_165_7 rfl rfl ?_
  refine zScall vr_165_8 rfl rfl rfl (fun m3102 _ => C_in _ _ _ _ _ _) (fun v3102 h3102 u3102 q3102 => ?_) (fun E3102 h3102 u3102 q3102 => ?_)
  · obtain ⟨eh3102, z3102⟩ := q3102
    replace eh3102 := eh3102.symm
    subst eh3102
    cases z3102
    show zL zrx zi _ 165 11 [(0, _), (1, _), (2, _)] [_] _ _ _
    refine zSb1 (f := fun x => decide (¬ x = 0)) (off := 9) (t := 20) vr_165_11 rfl rfl rfl (fun x3103 e3103 q3103 => ?_) (fun x3103 e3103 q3103 => ?_)
    · cases e3103
      have r1 : iN 4 f := in_y (x := f) (hi := 3) (m := 4) (by decide) (of_decide_eq_true q3103)
      refine zSiload (m := 1) (k := 2) vr_165_20 rfl rfl rfl (fun x3104 e3104 => ?_)
      cases e3104
      refine zSp0 (pc' := 23) (st' := .int (-3) :: _) vr_165_21 rfl rfl ?_
      refine zSp0 (pc' := 24) (st' := .int (3) :: _) vr_165_23 rfl rfl ?_
      refine zScall vr_165_24 rfl rfl rfl (fun m3107 _ => C_in _ _ _ _ _ _) (fun v3107 h3107 u3107 q3107 => ?_) (fun E3107 h3107 u3107 q3107 => ?_)
      · obtain ⟨eh3107, z3107⟩ := q3107
        replace eh3107 := eh3107.symm
        subst eh3107
        cases z3107
        show zL zrx zi _ 165 27 [(0, _), (1, _), (2, _)] [_] _ _ _
        refine zSb1 (f := fun x => decide (¬ x = 0)) (off := 9) (t := 36) vr_165_27 rfl rfl rfl (fun x3108 e3108 q3108 => ?_) (fun x3108 e3108 q3108 => ?_)
        · cases e3108
          refine zSaload (m := 1) (k := 0) vr_165_36 rfl rfl rfl ?_
          refine zLget vr_165_37 rfl (fun p3110 w3110 e3110 t3110 g3110 => ?_)
          cases e3110
          first | (rw [(st_213_13 hS0)] at g3110; cases g3110) | skip
          refine zSiload (m := 1) (k := 1) vr_165_40 rfl rfl rfl (fun x3111 e3111 => ?_)
          cases e3111
          refine zLiald vr_165_41 rfl (fun p3112 x3112 w3112 e3112 f3112 c3112 t3112 g3112 => ?_)
          cases e3112
          cases f3112
          first | (rw [(st_213_13 hS0)] at g3112; cases g3112) | skip
          refine zSistore (m := 1) (k := 3) vr_165_42 rfl rfl (fun x3113 e3113 => ?_)
          cases e3113
          show zL zrx zi _ 165 43 [(3, _), (0, _), (1, _), (2, _)] [] _ _ _
          refine zSaload (m := 1) (k := 0) vr_165_43 rfl rfl rfl ?_
          refine zLget vr_165_44 rfl (fun p3115 w3115 e3115 t3115 g3115 => ?_)
          cases e3115
          first | (rw [(st_213_13 hS0)] at g3115; cases g3115) | skip
          refine zSiload (m := 1) (k := 1) vr_165_47 rfl rfl rfl (fun x3116 e3116 => ?_)
          cases e3116
          refine zSiload (m := 1) (k := 2) vr_165_48 rfl rfl rfl (fun x3117 e3117 => ?_)
          cases e3117
          refine zLiast vr_165_49 rfl (fun p3118 x3118 z3118 k3118 e3118 f3118 d3118 c3118 t3118 g3118 => ?_)
          cases e3118
          cases f3118
          cases d3118
          refine zSiload (m := 1) (k := 3) vr_165_50 rfl rfl rfl (fun x3119 e3119 => ?_)
          cases e3119
          refine zLiret vr_165_51 rfl (fun x3120 e3120 => ?_)
          cases e3120
          exact ⟨_, _, rfl, t0, Or.inl ⟨⟨r1, inB_y (of_decide_eq_true q3108)⟩, g3118, (iv_of g3112).symm⟩⟩
        · cases e3108
          refine zSaload (m := 1) (k := 0) vr_165_30 rfl rfl rfl ?_
          refine zSp0 (pc' := 32) (st' := .int (2) :: _) vr_165_31 rfl rfl ?_
          refine zScall vr_165_32 rfl rfl rfl (fun m3123 _ => C_no _ _ _ _ _) (fun v3123 h3123 u3123 q3123 => ?_) (fun E3123 h3123 u3123 q3123 => ?_)
          · obtain ⟨gn3123, z3123⟩ := q3123
            cases z3123
            show zL zrx zi _ 165 35 [(0, _), (1, _), (2, _)] [_] _ _ _
            refine zLiret vr_165_35 rfl (fun x3124 e3124 => ?_)
            cases e3124
            exact ⟨_, _, rfl, t0, Or.inr (Or.inr ⟨r1, fun z => inB_n (by simpa using q3108) z, gn3123⟩)⟩
          · obtain ⟨-, z⟩ := q3123
            cases z
      · obtain ⟨-, z⟩ := q3107
        cases z
    · cases e3103
      refine zSaload (m := 1) (k := 0) vr_165_14 rfl rfl rfl ?_
      refine zSp0 (pc' := 16) (st' := .int (1) :: _) vr_165_15 rfl rfl ?_
      refine zScall vr_165_16 rfl rfl rfl (fun m3127 _ => C_no _ _ _ _ _) (fun v3127 h3127 u3127 q3127 => ?_) (fun E3127 h3127 u3127 q3127 => ?_)
      · obtain ⟨gn3127, z3127⟩ := q3127
        cases z3127
        show zL zrx zi _ 165 19 [(0, _), (1, _), (2, _)] [_] _ _ _
        refine zLiret vr_165_19 rfl (fun x3128 e3128 => ?_)
        cases e3128
        exact ⟨_, _, rfl, t0, Or.inr (Or.inl ⟨fun z => in_n (x := f) (hi := 3) (m := 4) (by decide) (by simpa using q3103) z, gn3127⟩)⟩
      · obtain ⟨-, z⟩ := q3127
        cases z
  · obtain ⟨-, z⟩ := q3102
    cases z

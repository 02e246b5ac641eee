/-! ===== values: the cluster, 6 ===== -/
theorem vr_38_0 : zrx 38 0 = some (.aload_n 0, 0, 0) := by decide +kernel
theorem vr_38_1 : zrx 38 1 = some (.getfield 9, 9, 0) := by decide +kernel
theorem vr_38_4 : zrx 38 4 = some (.aload_n 1, 0, 0) := by decide +kernel
theorem vr_38_5 : zrx 38 5 = some (.getfield 22, 4, 0) := by decide +kernel
theorem vr_38_8 : zrx 38 8 = some (.iaload, 0, 0) := by decide +kernel
theorem vr_38_9 : zrx 38 9 = some (.istore_n 2, 0, 0) := by decide +kernel
theorem vr_38_10 : zrx 38 10 = some (.aload_n 1, 0, 0) := by decide +kernel
theorem vr_38_11 : zrx 38 11 = some (.getfield 27, 4, 6) := by decide +kernel
theorem vr_38_14 : zrx 38 14 = some (.ifCond .ge 7, 0, 0) := by decide +kernel
theorem vr_38_17 : zrx 38 17 = some (.iload_n 2, 0, 0) := by decide +kernel
theorem vr_38_18 : zrx 38 18 = some (.goto 20, 0, 0) := by decide +kernel
theorem vr_38_21 : zrx 38 21 = some (.iload_n 2, 0, 0) := by decide +kernel
theorem vr_38_22 : zrx 38 22 = some (.aload_n 0, 0, 0) := by decide +kernel
theorem vr_38_23 : zrx 38 23 = some (.getfield 30, 9, 2) := by decide +kernel
theorem vr_38_26 : zrx 38 26 = some (.aload_n 1, 0, 0) := by decide +kernel
theorem vr_38_27 : zrx 38 27 = some (.getfield 27, 4, 6) := by decide +kernel
theorem vr_38_30 : zrx 38 30 = some (.bipush 50, 0, 0) := by decide +kernel
theorem vr_38_32 : zrx 38 32 = some (.isub, 0, 0) := by decide +kernel
theorem vr_38_33 : zrx 38 33 = some (.imul, 0, 0) := by decide +kernel
theorem vr_38_34 : zrx 38 34 = some (.bipush 25, 0, 0) := by decide +kernel
theorem vr_38_36 : zrx 38 36 = some (.idiv, 0, 0) := by decide +kernel
theorem vr_38_37 : zrx 38 37 = some (.iadd, 0, 0) := by decide +kernel
theorem vr_38_38 : zrx 38 38 = some (.ireturn, 0, 0) := by decide +kernel
theorem vr_39_0 : zrx 39 0 = some (.iload_n 2, 0, 0) := by decide +kernel
theorem vr_39_1 : zrx 39 1 = some (.ifCond .ne 16, 0, 0) := by decide +kernel
theorem vr_39_4 : zrx 39 4 = some (.aload_n 0, 0, 0) := by decide +kernel
theorem vr_39_5 : zrx 39 5 = some (.getfield 18, 9, 3) := by decide +kernel
theorem vr_39_8 : zrx 39 8 = some (.aload_n 1, 0, 0) := by decide +kernel
theorem vr_39_9 : zrx 39 9 = some (.getfield 33, 3, 0) := by decide +kernel
theorem vr_39_12 : zrx 39 12 = some (.if_icmp .ne 5, 0, 0) := by decide +kernel
theorem vr_39_15 : zrx 39 15 = some (.iconst 1, 0, 0) := by decide +kernel
theorem vr_39_16 : zrx 39 16 = some (.ireturn, 0, 0) := by decide +kernel
theorem vr_39_17 : zrx 39 17 = some (.aload_n 0, 0, 0) := by decide +kernel
theorem vr_39_18 : zrx 39 18 = some (.aload_n 1, 0, 0) := by decide +kernel
theorem vr_39_19 : zrx 39 19 = some (.getfield 38, 3, 1) := by decide +kernel
theorem vr_39_22 : zrx 39 22 = some (.invokevirtual 42, 38, 100) := by decide +kernel
theorem vr_39_25 : zrx 39 25 = some (.iconst 0, 0, 0) := by decide +kernel
theorem vr_39_26 : zrx 39 26 = some (.invokestatic 46, 259, 0) := by decide +kernel
theorem vr_39_29 : zrx 39 29 = some (.istore_n 3, 0, 0) := by decide +kernel
theorem vr_39_30 : zrx 39 30 = some (.iload_n 2, 0, 0) := by decide +kernel
theorem vr_39_31 : zrx 39 31 = some (.ifCond .eq 8, 0, 0) := by decide +kernel
theorem vr_39_34 : zrx 39 34 = some (.iload_n 3, 0, 0) := by decide +kernel
theorem vr_39_35 : zrx 39 35 = some (.ineg, 0, 0) := by decide +kernel
theorem vr_39_36 : zrx 39 36 = some (.goto 4, 0, 0) := by decide +kernel
theorem vr_39_39 : zrx 39 39 = some (.iload_n 3, 0, 0) := by decide +kernel
theorem vr_39_40 : zrx 39 40 = some (.ireturn, 0, 0) := by decide +kernel
theorem vr_49_0 : zrx 49 0 = some (.iconst 0, 0, 0) := by decide +kernel
theorem vr_49_1 : zrx 49 1 = some (.istore_n 2, 0, 0) := by decide +kernel
theorem vr_49_2 : zrx 49 2 = some (.iconst 0, 0, 0) := by decide +kernel
theorem vr_49_3 : zrx 49 3 = some (.istore_n 3, 0, 0) := by decide +kernel
theorem vr_49_4 : zrx 49 4 = some (.iload_n 3, 0, 0) := by decide +kernel
theorem vr_49_5 : zrx 49 5 = some (.iconst 4, 0, 0) := by decide +kernel
theorem vr_49_6 : zrx 49 6 = some (.if_icmp .ge 23, 0, 0) := by decide +kernel
theorem vr_49_9 : zrx 49 9 = some (.iload_n 2, 0, 0) := by decide +kernel
theorem vr_49_10 : zrx 49 10 = some (.aload_n 0, 0, 0) := by decide +kernel
theorem vr_49_11 : zrx 49 11 = some (.getfield 11, 11, 0) := by decide +kernel
theorem vr_49_14 : zrx 49 14 = some (.iload_n 3, 0, 0) := by decide +kernel
theorem vr_49_15 : zrx 49 15 = some (.aaload, 0, 0) := by decide +kernel
theorem vr_49_16 : zrx 49 16 = some (.getfield 18, 9, 1) := by decide +kernel
theorem vr_49_19 : zrx 49 19 = some (.iload_n 1, 0, 0) := by decide +kernel
theorem vr_49_20 : zrx 49 20 = some (.iaload, 0, 0) := by decide +kernel
theorem vr_49_21 : zrx 49 21 = some (.iadd, 0, 0) := by decide +kernel
theorem vr_49_22 : zrx 49 22 = some (.istore_n 2, 0, 0) := by decide +kernel
theorem vr_49_23 : zrx 49 23 = some (.iinc 3 1, 0, 0) := by decide +kernel
theorem vr_49_26 : zrx 49 26 = some (.goto (-22), 0, 0) := by decide +kernel
theorem vr_49_29 : zrx 49 29 = some (.iload_n 2, 0, 0) := by decide +kernel
theorem vr_49_30 : zrx 49 30 = some (.ireturn, 0, 0) := by decide +kernel
theorem vr_51_0 : zrx 51 0 = some (.iconst 0, 0, 0) := by decide +kernel
theorem vr_51_1 : zrx 51 1 = some (.istore 4, 0, 0) := by decide +kernel
theorem vr_51_3 : zrx 51 3 = some (.iconst 0, 0, 0) := by decide +kernel
theorem vr_51_4 : zrx 51 4 = some (.istore 5, 0, 0) := by decide +kernel
theorem vr_51_6 : zrx 51 6 = some (.iload 5, 0, 0) := by decide +kernel
theorem vr_51_8 : zrx 51 8 = some (.iconst 4, 0, 0) := by decide +kernel
theorem vr_51_9 : zrx 51 9 = some (.if_icmp .ge 39, 0, 0) := by decide +kernel
theorem vr_51_12 : zrx 51 12 = some (.iload 4, 0, 0) := by decide +kernel
theorem vr_51_14 : zrx 51 14 = some (.aload_n 0, 0, 0) := by decide +kernel
theorem vr_51_15 : zrx 51 15 = some (.getfield 11, 11, 0) := by decide +kernel
theorem vr_51_18 : zrx 51 18 = some (.iload 5, 0, 0) := by decide +kernel
theorem vr_51_20 : zrx 51 20 = some (.aaload, 0, 0) := by decide +kernel
theorem vr_51_21 : zrx 51 21 = some (.getfield 18, 9, 1) := by decide +kernel
theorem vr_51_24 : zrx 51 24 = some (.iload_n 1, 0, 0) := by decide +kernel
theorem vr_51_25 : zrx 51 25 = some (.iaload, 0, 0) := by decide +kernel
theorem vr_51_26 : zrx 51 26 = some (.aload_n 0, 0, 0) := by decide +kernel
theorem vr_51_27 : zrx 51 27 = some (.getfield 11, 11, 0) := by decide +kernel
theorem vr_51_30 : zrx 51 30 = some (.iload 5, 0, 0) := by decide +kernel
theorem vr_51_32 : zrx 51 32 = some (.aaload, 0, 0) := by decide +kernel
theorem vr_51_33 : zrx 51 33 = some (.aload_n 2, 0, 0) := by decide +kernel
theorem vr_51_34 : zrx 51 34 = some (.iload_n 3, 0, 0) := by decide +kernel
theorem vr_51_35 : zrx 51 35 = some (.invokevirtual 26, 39, 100) := by decide +kernel
theorem vr_51_38 : zrx 51 38 = some (.imul, 0, 0) := by decide +kernel
theorem vr_51_39 : zrx 51 39 = some (.iadd, 0, 0) := by decide +kernel
theorem vr_51_40 : zrx 51 40 = some (.istore 4, 0, 0) := by decide +kernel
theorem vr_51_42 : zrx 51 42 = some (.iinc 5 1, 0, 0) := by decide +kernel
theorem vr_51_45 : zrx 51 45 = some (.goto (-39), 0, 0) := by decide +kernel
theorem vr_51_48 : zrx 51 48 = some (.iload 4, 0, 0) := by decide +kernel
theorem vr_51_50 : zrx 51 50 = some (.ireturn, 0, 0) := by decide +kernel
theorem vr_52_0 : zrx 52 0 = some (.iconst 0, 0, 0) := by decide +kernel
theorem vr_52_1 : zrx 52 1 = some (.istore_n 3, 0, 0) := by decide +kernel
theorem vr_52_2 : zrx 52 2 = some (.iconst 0, 0, 0) := by decide +kernel
theorem vr_52_3 : zrx 52 3 = some (.istore 4, 0, 0) := by decide +kernel
theorem vr_52_5 : zrx 52 5 = some (.iload 4, 0, 0) := by decide +kernel
theorem vr_52_7 : zrx 52 7 = some (.iconst 3, 0, 0) := by decide +kernel
theorem vr_52_8 : zrx 52 8 = some (.if_icmp .ge 23, 0, 0) := by decide +kernel
theorem vr_52_11 : zrx 52 11 = some (.aload_n 0, 0, 0) := by decide +kernel
theorem vr_52_12 : zrx 52 12 = some (.iload 4, 0, 0) := by decide +kernel
theorem vr_52_14 : zrx 52 14 = some (.aload_n 1, 0, 0) := by decide +kernel
theorem vr_52_15 : zrx 52 15 = some (.iload_n 2, 0, 0) := by decide +kernel
theorem vr_52_16 : zrx 52 16 = some (.invokevirtual 30, 51, 120) := by decide +kernel
theorem vr_52_19 : zrx 52 19 = some (.ifCond .le 6, 0, 0) := by decide +kernel
theorem vr_52_22 : zrx 52 22 = some (.iinc 3 1, 0, 0) := by decide +kernel
theorem vr_52_25 : zrx 52 25 = some (.iinc 4 1, 0, 0) := by decide +kernel
theorem vr_52_28 : zrx 52 28 = some (.goto (-23), 0, 0) := by decide +kernel
theorem vr_52_31 : zrx 52 31 = some (.iload_n 3, 0, 0) := by decide +kernel
theorem vr_52_32 : zrx 52 32 = some (.ireturn, 0, 0) := by decide +kernel
theorem vr_66_0 : zrx 66 0 = some (.iload_n 1, 0, 0) := by decide +kernel
theorem vr_66_1 : zrx 66 1 = some (.iconst 3, 0, 0) := by decide +kernel
theorem vr_66_2 : zrx 66 2 = some (.invokestatic 68, 96, 0) := by decide +kernel
theorem vr_66_5 : zrx 66 5 = some (.iload_n 2, 0, 0) := by decide +kernel
theorem vr_66_6 : zrx 66 6 = some (.iconst 4, 0, 0) := by decide +kernel
theorem vr_66_7 : zrx 66 7 = some (.invokestatic 68, 96, 0) := by decide +kernel
theorem vr_66_10 : zrx 66 10 = some (.iload_n 3, 0, 0) := by decide +kernel
theorem vr_66_11 : zrx 66 11 = some (.iconst 0, 0, 0) := by decide +kernel
theorem vr_66_12 : zrx 66 12 = some (.bipush 60, 0, 0) := by decide +kernel
theorem vr_66_14 : zrx 66 14 = some (.invokestatic 72, 97, 0) := by decide +kernel
theorem vr_66_17 : zrx 66 17 = some (.aload_n 0, 0, 0) := by decide +kernel
theorem vr_66_18 : zrx 66 18 = some (.getfield 49, 13, 11) := by decide +kernel
theorem vr_66_21 : zrx 66 21 = some (.getfield 179, 11, 0) := by decide +kernel
theorem vr_66_24 : zrx 66 24 = some (.iload_n 2, 0, 0) := by decide +kernel
theorem vr_66_25 : zrx 66 25 = some (.aaload, 0, 0) := by decide +kernel
theorem vr_66_26 : zrx 66 26 = some (.getfield 183, 9, 1) := by decide +kernel
theorem vr_66_29 : zrx 66 29 = some (.iload_n 1, 0, 0) := by decide +kernel
theorem vr_66_30 : zrx 66 30 = some (.iload_n 3, 0, 0) := by decide +kernel
theorem vr_66_31 : zrx 66 31 = some (.iastore, 0, 0) := by decide +kernel
theorem vr_66_32 : zrx 66 32 = some (.aload_n 0, 0, 0) := by decide +kernel
theorem vr_66_33 : zrx 66 33 = some (.getfield 49, 13, 11) := by decide +kernel
theorem vr_66_36 : zrx 66 36 = some (.iload_n 1, 0, 0) := by decide +kernel
theorem vr_66_37 : zrx 66 37 = some (.invokevirtual 188, 49, 120) := by decide +kernel
theorem vr_66_40 : zrx 66 40 = some (.ireturn, 0, 0) := by decide +kernel
theorem vr_67_0 : zrx 67 0 = some (.iload_n 1, 0, 0) := by decide +kernel
theorem vr_67_1 : zrx 67 1 = some (.iconst 4, 0, 0) := by decide +kernel
theorem vr_67_2 : zrx 67 2 = some (.invokestatic 68, 96, 0) := by decide +kernel
theorem vr_67_5 : zrx 67 5 = some (.iload_n 2, 0, 0) := by decide +kernel
theorem vr_67_6 : zrx 67 6 = some (.iconst 4, 0, 0) := by decide +kernel
theorem vr_67_7 : zrx 67 7 = some (.invokestatic 68, 96, 0) := by decide +kernel
theorem vr_67_10 : zrx 67 10 = some (.iload_n 3, 0, 0) := by decide +kernel
theorem vr_67_11 : zrx 67 11 = some (.bipush (-5), 0, 0) := by decide +kernel
theorem vr_67_13 : zrx 67 13 = some (.iconst 5, 0, 0) := by decide +kernel
theorem vr_67_14 : zrx 67 14 = some (.invokestatic 72, 97, 0) := by decide +kernel
theorem vr_67_17 : zrx 67 17 = some (.aload_n 0, 0, 0) := by decide +kernel
theorem vr_67_18 : zrx 67 18 = some (.getfield 49, 13, 11) := by decide +kernel
theorem vr_67_21 : zrx 67 21 = some (.getfield 179, 11, 0) := by decide +kernel
theorem vr_67_24 : zrx 67 24 = some (.iload_n 1, 0, 0) := by decide +kernel
theorem vr_67_25 : zrx 67 25 = some (.aaload, 0, 0) := by decide +kernel
theorem vr_67_26 : zrx 67 26 = some (.getfield 191, 9, 0) := by decide +kernel
theorem vr_67_29 : zrx 67 29 = some (.iload_n 2, 0, 0) := by decide +kernel
theorem vr_67_30 : zrx 67 30 = some (.iaload, 0, 0) := by decide +kernel
theorem vr_67_31 : zrx 67 31 = some (.istore 4, 0, 0) := by decide +kernel
theorem vr_67_33 : zrx 67 33 = some (.aload_n 0, 0, 0) := by decide +kernel
theorem vr_67_34 : zrx 67 34 = some (.getfield 49, 13, 11) := by decide +kernel
theorem vr_67_37 : zrx 67 37 = some (.getfield 179, 11, 0) := by decide +kernel
theorem vr_67_40 : zrx 67 40 = some (.iload_n 1, 0, 0) := by decide +kernel
theorem vr_67_41 : zrx 67 41 = some (.aaload, 0, 0) := by decide +kernel
theorem vr_67_42 : zrx 67 42 = some (.getfield 191, 9, 0) := by decide +kernel
theorem vr_67_45 : zrx 67 45 = some (.iload_n 2, 0, 0) := by decide +kernel
theorem vr_67_46 : zrx 67 46 = some (.iload_n 3, 0, 0) := by decide +kernel
theorem vr_67_47 : zrx 67 47 = some (.iastore, 0, 0) := by decide +kernel
theorem vr_67_48 : zrx 67 48 = some (.iload 4, 0, 0) := by decide +kernel
theorem vr_67_50 : zrx 67 50 = some (.ireturn, 0, 0) := by decide +kernel
theorem vr_68_0 : zrx 68 0 = some (.iload_n 1, 0, 0) := by decide +kernel
theorem vr_68_1 : zrx 68 1 = some (.iconst 4, 0, 0) := by decide +kernel
theorem vr_68_2 : zrx 68 2 = some (.invokestatic 68, 96, 0) := by decide +kernel
theorem vr_68_5 : zrx 68 5 = some (.iload_n 2, 0, 0) := by decide +kernel
theorem vr_68_6 : zrx 68 6 = some (.bipush (-3), 0, 0) := by decide +kernel
theorem vr_68_8 : zrx 68 8 = some (.iconst 3, 0, 0) := by decide +kernel
theorem vr_68_9 : zrx 68 9 = some (.invokestatic 72, 97, 0) := by decide +kernel
theorem vr_68_12 : zrx 68 12 = some (.aload_n 0, 0, 0) := by decide +kernel
theorem vr_68_13 : zrx 68 13 = some (.getfield 49, 13, 11) := by decide +kernel
theorem vr_68_16 : zrx 68 16 = some (.getfield 179, 11, 0) := by decide +kernel
theorem vr_68_19 : zrx 68 19 = some (.iload_n 1, 0, 0) := by decide +kernel
theorem vr_68_20 : zrx 68 20 = some (.aaload, 0, 0) := by decide +kernel
theorem vr_68_21 : zrx 68 21 = some (.getfield 194, 9, 2) := by decide +kernel
theorem vr_68_24 : zrx 68 24 = some (.istore_n 3, 0, 0) := by decide +kernel
theorem vr_68_25 : zrx 68 25 = some (.aload_n 0, 0, 0) := by decide +kernel
theorem vr_68_26 : zrx 68 26 = some (.getfield 49, 13, 11) := by decide +kernel
theorem vr_68_29 : zrx 68 29 = some (.getfield 179, 11, 0) := by decide +kernel
theorem vr_68_32 : zrx 68 32 = some (.iload_n 1, 0, 0) := by decide +kernel
theorem vr_68_33 : zrx 68 33 = some (.aaload, 0, 0) := by decide +kernel
theorem vr_68_34 : zrx 68 34 = some (.iload_n 2, 0, 0) := by decide +kernel
theorem vr_68_35 : zrx 68 35 = some (.putfield 194, 9, 2) := by decide +kernel
theorem vr_68_38 : zrx 68 38 = some (.iload_n 3, 0, 0) := by decide +kernel
theorem vr_68_39 : zrx 68 39 = some (.ireturn, 0, 0) := by decide +kernel
theorem vr_75_0 : zrx 75 0 = some (.iload_n 1, 0, 0) := by decide +kernel
theorem vr_75_1 : zrx 75 1 = some (.iconst 1, 0, 0) := by decide +kernel
theorem vr_75_2 : zrx 75 2 = some (.sipush 400, 0, 0) := by decide +kernel
theorem vr_75_5 : zrx 75 5 = some (.invokestatic 72, 97, 0) := by decide +kernel
theorem vr_75_8 : zrx 75 8 = some (.aload_n 0, 0, 0) := by decide +kernel
theorem vr_75_9 : zrx 75 9 = some (.getfield 123, 13, 0) := by decide +kernel
theorem vr_75_12 : zrx 75 12 = some (.iload_n 1, 0, 0) := by decide +kernel
theorem vr_75_13 : zrx 75 13 = some (.iadd, 0, 0) := by decide +kernel
theorem vr_75_14 : zrx 75 14 = some (.sipush 3000, 0, 0) := by decide +kernel
theorem vr_75_17 : zrx 75 17 = some (.if_icmp .gt 7, 0, 0) := by decide +kernel
theorem vr_75_20 : zrx 75 20 = some (.iconst 1, 0, 0) := by decide +kernel
theorem vr_75_21 : zrx 75 21 = some (.goto 4, 0, 0) := by decide +kernel
theorem vr_75_24 : zrx 75 24 = some (.iconst 0, 0, 0) := by decide +kernel
theorem vr_75_25 : zrx 75 25 = some (.invokestatic 83, 98, 0) := by decide +kernel
theorem vr_75_28 : zrx 75 28 = some (.aload_n 0, 0, 0) := by decide +kernel
theorem vr_75_29 : zrx 75 29 = some (.dup, 0, 0) := by decide +kernel
theorem vr_75_30 : zrx 75 30 = some (.getfield 123, 13, 0) := by decide +kernel
theorem vr_75_33 : zrx 75 33 = some (.iload_n 1, 0, 0) := by decide +kernel
theorem vr_75_34 : zrx 75 34 = some (.iadd, 0, 0) := by decide +kernel
theorem vr_75_35 : zrx 75 35 = some (.putfield 123, 13, 0) := by decide +kernel
theorem vr_75_38 : zrx 75 38 = some (.aload_n 0, 0, 0) := by decide +kernel
theorem vr_75_39 : zrx 75 39 = some (.getfield 123, 13, 0) := by decide +kernel
theorem vr_75_42 : zrx 75 42 = some (.ireturn, 0, 0) := by decide +kernel
theorem vr_163_0 : zrx 163 0 = some (.aload_n 0, 0, 0) := by decide +kernel
theorem vr_163_1 : zrx 163 1 = some (.iconst 0, 0, 0) := by decide +kernel
theorem vr_163_2 : zrx 163 2 = some (.putfield 55, 18, 0) := by decide +kernel
theorem vr_163_5 : zrx 163 5 = some (.iload_n 1, 0, 0) := by decide +kernel
theorem vr_163_6 : zrx 163 6 = some (.iconst 0, 0, 0) := by decide +kernel
theorem vr_163_7 : zrx 163 7 = some (.iconst 2, 0, 0) := by decide +kernel
theorem vr_163_8 : zrx 163 8 = some (.invokestatic 209, 132, 0) := by decide +kernel
theorem vr_163_11 : zrx 163 11 = some (.ifCond .eq 12, 0, 0) := by decide +kernel
theorem vr_163_14 : zrx 163 14 = some (.iload_n 2, 0, 0) := by decide +kernel
theorem vr_163_15 : zrx 163 15 = some (.iconst 0, 0, 0) := by decide +kernel
theorem vr_163_16 : zrx 163 16 = some (.iconst 3, 0, 0) := by decide +kernel
theorem vr_163_17 : zrx 163 17 = some (.invokestatic 209, 132, 0) := by decide +kernel
theorem vr_163_20 : zrx 163 20 = some (.ifCond .ne 9, 0, 0) := by decide +kernel
theorem vr_163_23 : zrx 163 23 = some (.aload_n 0, 0, 0) := by decide +kernel
theorem vr_163_24 : zrx 163 24 = some (.iconst 1, 0, 0) := by decide +kernel
theorem vr_163_25 : zrx 163 25 = some (.invokevirtual 212, 131, 190) := by decide +kernel
theorem vr_163_28 : zrx 163 28 = some (.ireturn, 0, 0) := by decide +kernel
theorem vr_163_29 : zrx 163 29 = some (.iload_n 3, 0, 0) := by decide +kernel
theorem vr_163_30 : zrx 163 30 = some (.iconst 0, 0, 0) := by decide +kernel
theorem vr_163_31 : zrx 163 31 = some (.bipush 60, 0, 0) := by decide +kernel
theorem vr_163_33 : zrx 163 33 = some (.invokestatic 209, 132, 0) := by decide +kernel
theorem vr_163_36 : zrx 163 36 = some (.ifCond .ne 9, 0, 0) := by decide +kernel
theorem vr_163_39 : zrx 163 39 = some (.aload_n 0, 0, 0) := by decide +kernel
theorem vr_163_40 : zrx 163 40 = some (.iconst 2, 0, 0) := by decide +kernel
theorem vr_163_41 : zrx 163 41 = some (.invokevirtual 212, 131, 190) := by decide +kernel
theorem vr_163_44 : zrx 163 44 = some (.ireturn, 0, 0) := by decide +kernel
theorem vr_163_45 : zrx 163 45 = some (.aload_n 0, 0, 0) := by decide +kernel
theorem vr_163_46 : zrx 163 46 = some (.getfield 40, 18, 11) := by decide +kernel
theorem vr_163_49 : zrx 163 49 = some (.iload_n 1, 0, 0) := by decide +kernel
theorem vr_163_50 : zrx 163 50 = some (.aaload, 0, 0) := by decide +kernel
theorem vr_163_51 : zrx 163 51 = some (.iload_n 2, 0, 0) := by decide +kernel
theorem vr_163_52 : zrx 163 52 = some (.iload_n 3, 0, 0) := by decide +kernel
theorem vr_163_53 : zrx 163 53 = some (.iastore, 0, 0) := by decide +kernel
theorem vr_163_54 : zrx 163 54 = some (.aload_n 0, 0, 0) := by decide +kernel
theorem vr_163_55 : zrx 163 55 = some (.getfield 40, 18, 11) := by decide +kernel
theorem vr_163_58 : zrx 163 58 = some (.iload_n 1, 0, 0) := by decide +kernel
theorem vr_163_59 : zrx 163 59 = some (.aaload, 0, 0) := by decide +kernel
theorem vr_163_60 : zrx 163 60 = some (.iconst 0, 0, 0) := by decide +kernel
theorem vr_163_61 : zrx 163 61 = some (.iaload, 0, 0) := by decide +kernel
theorem vr_163_62 : zrx 163 62 = some (.aload_n 0, 0, 0) := by decide +kernel
theorem vr_163_63 : zrx 163 63 = some (.getfield 40, 18, 11) := by decide +kernel
theorem vr_163_66 : zrx 163 66 = some (.iload_n 1, 0, 0) := by decide +kernel
theorem vr_163_67 : zrx 163 67 = some (.aaload, 0, 0) := by decide +kernel
theorem vr_163_68 : zrx 163 68 = some (.iconst 1, 0, 0) := by decide +kernel
theorem vr_163_69 : zrx 163 69 = some (.iaload, 0, 0) := by decide +kernel
theorem vr_163_70 : zrx 163 70 = some (.iadd, 0, 0) := by decide +kernel
theorem vr_163_71 : zrx 163 71 = some (.aload_n 0, 0, 0) := by decide +kernel
theorem vr_163_72 : zrx 163 72 = some (.getfield 40, 18, 11) := by decide +kernel
theorem vr_163_75 : zrx 163 75 = some (.iload_n 1, 0, 0) := by decide +kernel
theorem vr_163_76 : zrx 163 76 = some (.aaload, 0, 0) := by decide +kernel
theorem vr_163_77 : zrx 163 77 = some (.iconst 2, 0, 0) := by decide +kernel
theorem vr_163_78 : zrx 163 78 = some (.iaload, 0, 0) := by decide +kernel
theorem vr_163_79 : zrx 163 79 = some (.iadd, 0, 0) := by decide +kernel
theorem vr_163_80 : zrx 163 80 = some (.aload_n 0, 0, 0) := by decide +kernel
theorem vr_163_81 : zrx 163 81 = some (.getfield 40, 18, 11) := by decide +kernel
theorem vr_163_84 : zrx 163 84 = some (.iload_n 1, 0, 0) := by decide +kernel
theorem vr_163_85 : zrx 163 85 = some (.aaload, 0, 0) := by decide +kernel
theorem vr_163_86 : zrx 163 86 = some (.iconst 3, 0, 0) := by decide +kernel
theorem vr_163_87 : zrx 163 87 = some (.iaload, 0, 0) := by decide +kernel
theorem vr_163_88 : zrx 163 88 = some (.iadd, 0, 0) := by decide +kernel
theorem vr_163_89 : zrx 163 89 = some (.ireturn, 0, 0) := by decide +kernel
theorem vr_164_0 : zrx 164 0 = some (.aload_n 0, 0, 0) := by decide +kernel
theorem vr_164_1 : zrx 164 1 = some (.iconst 0, 0, 0) := by decide +kernel
theorem vr_164_2 : zrx 164 2 = some (.putfield 55, 18, 0) := by decide +kernel
theorem vr_164_5 : zrx 164 5 = some (.iload_n 1, 0, 0) := by decide +kernel
theorem vr_164_6 : zrx 164 6 = some (.iconst 0, 0, 0) := by decide +kernel
theorem vr_164_7 : zrx 164 7 = some (.iconst 3, 0, 0) := by decide +kernel
theorem vr_164_8 : zrx 164 8 = some (.invokestatic 209, 132, 0) := by decide +kernel
theorem vr_164_11 : zrx 164 11 = some (.ifCond .eq 12, 0, 0) := by decide +kernel
theorem vr_164_14 : zrx 164 14 = some (.iload_n 2, 0, 0) := by decide +kernel
theorem vr_164_15 : zrx 164 15 = some (.iconst 0, 0, 0) := by decide +kernel
theorem vr_164_16 : zrx 164 16 = some (.iconst 3, 0, 0) := by decide +kernel
theorem vr_164_17 : zrx 164 17 = some (.invokestatic 209, 132, 0) := by decide +kernel
theorem vr_164_20 : zrx 164 20 = some (.ifCond .ne 9, 0, 0) := by decide +kernel
theorem vr_164_23 : zrx 164 23 = some (.aload_n 0, 0, 0) := by decide +kernel
theorem vr_164_24 : zrx 164 24 = some (.iconst 1, 0, 0) := by decide +kernel
theorem vr_164_25 : zrx 164 25 = some (.invokevirtual 212, 131, 190) := by decide +kernel
theorem vr_164_28 : zrx 164 28 = some (.ireturn, 0, 0) := by decide +kernel
theorem vr_164_29 : zrx 164 29 = some (.iload_n 3, 0, 0) := by decide +kernel
theorem vr_164_30 : zrx 164 30 = some (.bipush (-5), 0, 0) := by decide +kernel
theorem vr_164_32 : zrx 164 32 = some (.iconst 5, 0, 0) := by decide +kernel
theorem vr_164_33 : zrx 164 33 = some (.invokestatic 209, 132, 0) := by decide +kernel
theorem vr_164_36 : zrx 164 36 = some (.ifCond .ne 9, 0, 0) := by decide +kernel
theorem vr_164_39 : zrx 164 39 = some (.aload_n 0, 0, 0) := by decide +kernel
theorem vr_164_40 : zrx 164 40 = some (.iconst 2, 0, 0) := by decide +kernel
theorem vr_164_41 : zrx 164 41 = some (.invokevirtual 212, 131, 190) := by decide +kernel
theorem vr_164_44 : zrx 164 44 = some (.ireturn, 0, 0) := by decide +kernel
theorem vr_164_45 : zrx 164 45 = some (.aload_n 0, 0, 0) := by decide +kernel
theorem vr_164_46 : zrx 164 46 = some (.getfield 43, 18, 12) := by decide +kernel
theorem vr_164_49 : zrx 164 49 = some (.iload_n 1, 0, 0) := by decide +kernel
theorem vr_164_50 : zrx 164 50 = some (.aaload, 0, 0) := by decide +kernel
theorem vr_164_51 : zrx 164 51 = some (.iload_n 2, 0, 0) := by decide +kernel
theorem vr_164_52 : zrx 164 52 = some (.iaload, 0, 0) := by decide +kernel
theorem vr_164_53 : zrx 164 53 = some (.istore 4, 0, 0) := by decide +kernel
theorem vr_164_55 : zrx 164 55 = some (.aload_n 0, 0, 0) := by decide +kernel
theorem vr_164_56 : zrx 164 56 = some (.getfield 43, 18, 12) := by decide +kernel
theorem vr_164_59 : zrx 164 59 = some (.iload_n 1, 0, 0) := by decide +kernel
theorem vr_164_60 : zrx 164 60 = some (.aaload, 0, 0) := by decide +kernel
theorem vr_164_61 : zrx 164 61 = some (.iload_n 2, 0, 0) := by decide +kernel
theorem vr_164_62 : zrx 164 62 = some (.iload_n 3, 0, 0) := by decide +kernel
theorem vr_164_63 : zrx 164 63 = some (.iastore, 0, 0) := by decide +kernel
theorem vr_164_64 : zrx 164 64 = some (.iload 4, 0, 0) := by decide +kernel
theorem vr_164_66 : zrx 164 66 = some (.ireturn, 0, 0) := by decide +kernel
theorem vr_165_0 : zrx 165 0 = some (.aload_n 0, 0, 0) := by decide +kernel
theorem vr_165_1 : zrx 165 1 = some (.iconst 0, 0, 0) := by decide +kernel
theorem vr_165_2 : zrx 165 2 = some (.putfield 55, 18, 0) := by decide +kernel
theorem vr_165_5 : zrx 165 5 = some (.iload_n 1, 0, 0) := by decide +kernel
theorem vr_165_6 : zrx 165 6 = some (.iconst 0, 0, 0) := by decide +kernel
theorem vr_165_7 : zrx 165 7 = some (.iconst 3, 0, 0) := by decide +kernel
theorem vr_165_8 : zrx 165 8 = some (.invokestatic 209, 132, 0) := by decide +kernel
theorem vr_165_11 : zrx 165 11 = some (.ifCond .ne 9, 0, 0) := by decide +kernel
theorem vr_165_14 : zrx 165 14 = some (.aload_n 0, 0, 0) := by decide +kernel
theorem vr_165_15 : zrx 165 15 = some (.iconst 1, 0, 0) := by decide +kernel
theorem vr_165_16 : zrx 165 16 = some (.invokevirtual 212, 131, 190) := by decide +kernel
theorem vr_165_19 : zrx 165 19 = some (.ireturn, 0, 0) := by decide +kernel
theorem vr_165_20 : zrx 165 20 = some (.iload_n 2, 0, 0) := by decide +kernel
theorem vr_165_21 : zrx 165 21 = some (.bipush (-3), 0, 0) := by decide +kernel
theorem vr_165_23 : zrx 165 23 = some (.iconst 3, 0, 0) := by decide +kernel
theorem vr_165_24 : zrx 165 24 = some (.invokestatic 209, 132, 0) := by decide +kernel
theorem vr_165_27 : zrx 165 27 = some (.ifCond .ne 9, 0, 0) := by decide +kernel
theorem vr_165_30 : zrx 165 30 = some (.aload_n 0, 0, 0) := by decide +kernel
theorem vr_165_31 : zrx 165 31 = some (.iconst 2, 0, 0) := by decide +kernel
theorem vr_165_32 : zrx 165 32 = some (.invokevirtual 212, 131, 190) := by decide +kernel
theorem vr_165_35 : zrx 165 35 = some (.ireturn, 0, 0) := by decide +kernel
theorem vr_165_36 : zrx 165 36 = some (.aload_n 0, 0, 0) := by decide +kernel
theorem vr_165_37 : zrx 165 37 = some (.getfield 46, 18, 13) := by decide +kernel
theorem vr_165_40 : zrx 165 40 = some (.iload_n 1, 0, 0) := by decide +kernel
theorem vr_165_41 : zrx 165 41 = some (.iaload, 0, 0) := by decide +kernel
theorem vr_165_42 : zrx 165 42 = some (.istore_n 3, 0, 0) := by decide +kernel
theorem vr_165_43 : zrx 165 43 = some (.aload_n 0, 0, 0) := by decide +kernel
theorem vr_165_44 : zrx 165 44 = some (.getfield 46, 18, 13) := by decide +kernel
theorem vr_165_47 : zrx 165 47 = some (.iload_n 1, 0, 0) := by decide +kernel
theorem vr_165_48 : zrx 165 48 = some (.iload_n 2, 0, 0) := by decide +kernel
theorem vr_165_49 : zrx 165 49 = some (.iastore, 0, 0) := by decide +kernel
theorem vr_165_50 : zrx 165 50 = some (.iload_n 3, 0, 0) := by decide +kernel
theorem vr_165_51 : zrx 165 51 = some (.ireturn, 0, 0) := by decide +kernel
theorem vr_167_0 : zrx 167 0 = some (.aload_n 0, 0, 0) := by decide +kernel
theorem vr_167_1 : zrx 167 1 = some (.getfield 31, 18, 9) := by decide +kernel
theorem vr_167_4 : zrx 167 4 = some (.iload_n 2, 0, 0) := by decide +kernel
theorem vr_167_5 : zrx 167 5 = some (.invokeinterface 65 2, 306, 35) := by decide +kernel
theorem vr_167_10 : zrx 167 10 = some (.checkcast 108, 15, 0) := by decide +kernel
theorem vr_167_13 : zrx 167 13 = some (.astore_n 3, 0, 0) := by decide +kernel
theorem vr_167_14 : zrx 167 14 = some (.aload_n 0, 0, 0) := by decide +kernel
theorem vr_167_15 : zrx 167 15 = some (.getfield 43, 18, 12) := by decide +kernel
theorem vr_167_18 : zrx 167 18 = some (.iload_n 1, 0, 0) := by decide +kernel
theorem vr_167_19 : zrx 167 19 = some (.aaload, 0, 0) := by decide +kernel
theorem vr_167_20 : zrx 167 20 = some (.aload_n 3, 0, 0) := by decide +kernel
theorem vr_167_21 : zrx 167 21 = some (.getfield 183, 15, 0) := by decide +kernel
theorem vr_167_24 : zrx 167 24 = some (.iaload, 0, 0) := by decide +kernel
theorem vr_167_25 : zrx 167 25 = some (.aload_n 3, 0, 0) := by decide +kernel
theorem vr_167_26 : zrx 167 26 = some (.getfield 134, 15, 7) := by decide +kernel
theorem vr_167_29 : zrx 167 29 = some (.ifCond .lt 23, 0, 0) := by decide +kernel
theorem vr_167_32 : zrx 167 32 = some (.aload_n 0, 0, 0) := by decide +kernel
theorem vr_167_33 : zrx 167 33 = some (.getfield 46, 18, 13) := by decide +kernel
theorem vr_167_36 : zrx 167 36 = some (.iload_n 1, 0, 0) := by decide +kernel
theorem vr_167_37 : zrx 167 37 = some (.iaload, 0, 0) := by decide +kernel
theorem vr_167_38 : zrx 167 38 = some (.aload_n 3, 0, 0) := by decide +kernel
theorem vr_167_39 : zrx 167 39 = some (.getfield 134, 15, 7) := by decide +kernel
theorem vr_167_42 : zrx 167 42 = some (.bipush 50, 0, 0) := by decide +kernel
theorem vr_167_44 : zrx 167 44 = some (.isub, 0, 0) := by decide +kernel
theorem vr_167_45 : zrx 167 45 = some (.imul, 0, 0) := by decide +kernel
theorem vr_167_46 : zrx 167 46 = some (.bipush 25, 0, 0) := by decide +kernel
theorem vr_167_48 : zrx 167 48 = some (.idiv, 0, 0) := by decide +kernel
theorem vr_167_49 : zrx 167 49 = some (.goto 4, 0, 0) := by decide +kernel
theorem vr_167_52 : zrx 167 52 = some (.iconst 0, 0, 0) := by decide +kernel
theorem vr_167_53 : zrx 167 53 = some (.iadd, 0, 0) := by decide +kernel
theorem vr_167_54 : zrx 167 54 = some (.ireturn, 0, 0) := by decide +kernel
theorem vr_168_0 : zrx 168 0 = some (.iconst 0, 0, 0) := by decide +kernel
theorem vr_168_1 : zrx 168 1 = some (.istore 4, 0, 0) := by decide +kernel
theorem vr_168_3 : zrx 168 3 = some (.iconst 0, 0, 0) := by decide +kernel
theorem vr_168_4 : zrx 168 4 = some (.istore 5, 0, 0) := by decide +kernel
theorem vr_168_6 : zrx 168 6 = some (.iload 5, 0, 0) := by decide +kernel
theorem vr_168_8 : zrx 168 8 = some (.iconst 4, 0, 0) := by decide +kernel
theorem vr_168_9 : zrx 168 9 = some (.if_icmp .ge 88, 0, 0) := by decide +kernel
theorem vr_168_12 : zrx 168 12 = some (.aload_n 0, 0, 0) := by decide +kernel
theorem vr_168_13 : zrx 168 13 = some (.iload 5, 0, 0) := by decide +kernel
theorem vr_168_15 : zrx 168 15 = some (.iload_n 1, 0, 0) := by decide +kernel
theorem vr_168_16 : zrx 168 16 = some (.invokevirtual 266, 167, 190) := by decide +kernel
theorem vr_168_19 : zrx 168 19 = some (.istore 6, 0, 0) := by decide +kernel
theorem vr_168_21 : zrx 168 21 = some (.iload_n 3, 0, 0) := by decide +kernel
theorem vr_168_22 : zrx 168 22 = some (.ifCond .eq 9, 0, 0) := by decide +kernel
theorem vr_168_25 : zrx 168 25 = some (.iload 6, 0, 0) := by decide +kernel
theorem vr_168_27 : zrx 168 27 = some (.ineg, 0, 0) := by decide +kernel
theorem vr_168_28 : zrx 168 28 = some (.goto 20, 0, 0) := by decide +kernel
theorem vr_168_31 : zrx 168 31 = some (.aload_n 0, 0, 0) := by decide +kernel
theorem vr_168_32 : zrx 168 32 = some (.getfield 49, 18, 14) := by decide +kernel
theorem vr_168_35 : zrx 168 35 = some (.iload 5, 0, 0) := by decide +kernel
theorem vr_168_37 : zrx 168 37 = some (.iaload, 0, 0) := by decide +kernel
theorem vr_168_38 : zrx 168 38 = some (.iload_n 1, 0, 0) := by decide +kernel
theorem vr_168_39 : zrx 168 39 = some (.if_icmp .ne 7, 0, 0) := by decide +kernel
theorem vr_168_42 : zrx 168 42 = some (.iconst 1, 0, 0) := by decide +kernel
theorem vr_168_43 : zrx 168 43 = some (.goto 5, 0, 0) := by decide +kernel
theorem vr_168_46 : zrx 168 46 = some (.iload 6, 0, 0) := by decide +kernel
theorem vr_168_48 : zrx 168 48 = some (.istore 7, 0, 0) := by decide +kernel
theorem vr_168_50 : zrx 168 50 = some (.iload 4, 0, 0) := by decide +kernel
theorem vr_168_52 : zrx 168 52 = some (.iload 7, 0, 0) := by decide +kernel
theorem vr_168_54 : zrx 168 54 = some (.ifCond .le 15, 0, 0) := by decide +kernel
theorem vr_168_57 : zrx 168 57 = some (.aload_n 0, 0, 0) := by decide +kernel
theorem vr_168_58 : zrx 168 58 = some (.getfield 40, 18, 11) := by decide +kernel
theorem vr_168_61 : zrx 168 61 = some (.iload_n 2, 0, 0) := by decide +kernel
theorem vr_168_62 : zrx 168 62 = some (.aaload, 0, 0) := by decide +kernel
theorem vr_168_63 : zrx 168 63 = some (.iload 5, 0, 0) := by decide +kernel
theorem vr_168_65 : zrx 168 65 = some (.iaload, 0, 0) := by decide +kernel
theorem vr_168_66 : zrx 168 66 = some (.goto 22, 0, 0) := by decide +kernel
theorem vr_168_69 : zrx 168 69 = some (.iload 7, 0, 0) := by decide +kernel
theorem vr_168_71 : zrx 168 71 = some (.ifCond .ge 16, 0, 0) := by decide +kernel
theorem vr_168_74 : zrx 168 74 = some (.aload_n 0, 0, 0) := by decide +kernel
theorem vr_168_75 : zrx 168 75 = some (.getfield 40, 18, 11) := by decide +kernel
theorem vr_168_78 : zrx 168 78 = some (.iload_n 2, 0, 0) := by decide +kernel
theorem vr_168_79 : zrx 168 79 = some (.aaload, 0, 0) := by decide +kernel
theorem vr_168_80 : zrx 168 80 = some (.iload 5, 0, 0) := by decide +kernel
theorem vr_168_82 : zrx 168 82 = some (.iaload, 0, 0) := by decide +kernel
theorem vr_168_83 : zrx 168 83 = some (.ineg, 0, 0) := by decide +kernel
theorem vr_168_84 : zrx 168 84 = some (.goto 4, 0, 0) := by decide +kernel
theorem vr_168_87 : zrx 168 87 = some (.iconst 0, 0, 0) := by decide +kernel
theorem vr_168_88 : zrx 168 88 = some (.iadd, 0, 0) := by decide +kernel
theorem vr_168_89 : zrx 168 89 = some (.istore 4, 0, 0) := by decide +kernel
theorem vr_168_91 : zrx 168 91 = some (.iinc 5 1, 0, 0) := by decide +kernel
theorem vr_168_94 : zrx 168 94 = some (.goto (-88), 0, 0) := by decide +kernel
theorem vr_168_97 : zrx 168 97 = some (.iload 4, 0, 0) := by decide +kernel
theorem vr_168_99 : zrx 168 99 = some (.ireturn, 0, 0) := by decide +kernel
theorem vr_169_0 : zrx 169 0 = some (.iconst 0, 0, 0) := by decide +kernel
theorem vr_169_1 : zrx 169 1 = some (.istore_n 3, 0, 0) := by decide +kernel
theorem vr_169_2 : zrx 169 2 = some (.iconst 0, 0, 0) := by decide +kernel
theorem vr_169_3 : zrx 169 3 = some (.istore 4, 0, 0) := by decide +kernel
theorem vr_169_5 : zrx 169 5 = some (.iload 4, 0, 0) := by decide +kernel
theorem vr_169_7 : zrx 169 7 = some (.iconst 3, 0, 0) := by decide +kernel
theorem vr_169_8 : zrx 169 8 = some (.if_icmp .ge 28, 0, 0) := by decide +kernel
theorem vr_169_11 : zrx 169 11 = some (.iload_n 3, 0, 0) := by decide +kernel
theorem vr_169_12 : zrx 169 12 = some (.aload_n 0, 0, 0) := by decide +kernel
theorem vr_169_13 : zrx 169 13 = some (.iload_n 1, 0, 0) := by decide +kernel
theorem vr_169_14 : zrx 169 14 = some (.iload 4, 0, 0) := by decide +kernel
theorem vr_169_16 : zrx 169 16 = some (.iload_n 2, 0, 0) := by decide +kernel
theorem vr_169_17 : zrx 169 17 = some (.invokevirtual 269, 168, 190) := by decide +kernel
theorem vr_169_20 : zrx 169 20 = some (.ifCond .le 7, 0, 0) := by decide +kernel
theorem vr_169_23 : zrx 169 23 = some (.iconst 1, 0, 0) := by decide +kernel
theorem vr_169_24 : zrx 169 24 = some (.goto 4, 0, 0) := by decide +kernel
theorem vr_169_27 : zrx 169 27 = some (.iconst 0, 0, 0) := by decide +kernel
theorem vr_169_28 : zrx 169 28 = some (.iadd, 0, 0) := by decide +kernel
theorem vr_169_29 : zrx 169 29 = some (.istore_n 3, 0, 0) := by decide +kernel
theorem vr_169_30 : zrx 169 30 = some (.iinc 4 1, 0, 0) := by decide +kernel
theorem vr_169_33 : zrx 169 33 = some (.goto (-28), 0, 0) := by decide +kernel
theorem vr_169_36 : zrx 169 36 = some (.iload_n 3, 0, 0) := by decide +kernel
theorem vr_169_37 : zrx 169 37 = some (.ireturn, 0, 0) := by decide +kernel
theorem vr_176_0 : zrx 176 0 = some (.aload_n 0, 0, 0) := by decide +kernel
theorem vr_176_1 : zrx 176 1 = some (.iconst 0, 0, 0) := by decide +kernel
theorem vr_176_2 : zrx 176 2 = some (.putfield 55, 18, 0) := by decide +kernel
theorem vr_176_5 : zrx 176 5 = some (.iload_n 1, 0, 0) := by decide +kernel
theorem vr_176_6 : zrx 176 6 = some (.iconst 1, 0, 0) := by decide +kernel
theorem vr_176_7 : zrx 176 7 = some (.sipush 400, 0, 0) := by decide +kernel
theorem vr_176_10 : zrx 176 10 = some (.invokestatic 209, 132, 0) := by decide +kernel
theorem vr_176_13 : zrx 176 13 = some (.ifCond .ne 9, 0, 0) := by decide +kernel
theorem vr_176_16 : zrx 176 16 = some (.aload_n 0, 0, 0) := by decide +kernel
theorem vr_176_17 : zrx 176 17 = some (.iconst 1, 0, 0) := by decide +kernel
theorem vr_176_18 : zrx 176 18 = some (.invokevirtual 212, 131, 190) := by decide +kernel
theorem vr_176_21 : zrx 176 21 = some (.ireturn, 0, 0) := by decide +kernel
theorem vr_176_22 : zrx 176 22 = some (.aload_n 0, 0, 0) := by decide +kernel
theorem vr_176_23 : zrx 176 23 = some (.getfield 215, 18, 1) := by decide +kernel
theorem vr_176_26 : zrx 176 26 = some (.iload_n 1, 0, 0) := by decide +kernel
theorem vr_176_27 : zrx 176 27 = some (.iadd, 0, 0) := by decide +kernel
theorem vr_176_28 : zrx 176 28 = some (.sipush 3000, 0, 0) := by decide +kernel
theorem vr_176_31 : zrx 176 31 = some (.if_icmp .le 9, 0, 0) := by decide +kernel
theorem vr_176_34 : zrx 176 34 = some (.aload_n 0, 0, 0) := by decide +kernel
theorem vr_176_35 : zrx 176 35 = some (.iconst 2, 0, 0) := by decide +kernel
theorem vr_176_36 : zrx 176 36 = some (.invokevirtual 212, 131, 190) := by decide +kernel
theorem vr_176_39 : zrx 176 39 = some (.ireturn, 0, 0) := by decide +kernel
theorem vr_176_40 : zrx 176 40 = some (.aload_n 0, 0, 0) := by decide +kernel
theorem vr_176_41 : zrx 176 41 = some (.dup, 0, 0) := by decide +kernel
theorem vr_176_42 : zrx 176 42 = some (.getfield 215, 18, 1) := by decide +kernel
theorem vr_176_45 : zrx 176 45 = some (.iload_n 1, 0, 0) := by decide +kernel
theorem vr_176_46 : zrx 176 46 = some (.iadd, 0, 0) := by decide +kernel
theorem vr_176_47 : zrx 176 47 = some (.putfield 215, 18, 1) := by decide +kernel
theorem vr_176_50 : zrx 176 50 = some (.aload_n 0, 0, 0) := by decide +kernel
theorem vr_176_51 : zrx 176 51 = some (.getfield 215, 18, 1) := by decide +kernel
theorem vr_176_54 : zrx 176 54 = some (.ireturn, 0, 0) := by decide +kernel
theorem vr_217_0 : zrx 217 0 = some (.aload 4, 0, 0) := by decide +kernel
theorem vr_217_2 : zrx 217 2 = some (.aload_n 0, 0, 0) := by decide +kernel
theorem vr_217_3 : zrx 217 3 = some (.iload_n 1, 0, 0) := by decide +kernel
theorem vr_217_4 : zrx 217 4 = some (.iload_n 2, 0, 0) := by decide +kernel
theorem vr_217_5 : zrx 217 5 = some (.iload_n 3, 0, 0) := by decide +kernel
theorem vr_217_6 : zrx 217 6 = some (.invokevirtual 54, 66, 140) := by decide +kernel
theorem vr_217_9 : zrx 217 9 = some (.i2l, 0, 0) := by decide +kernel
theorem vr_217_10 : zrx 217 10 = some (.putfield 13, 14, 1000) := by decide +kernel
theorem vr_217_13 : zrx 217 13 = some (.goto 11, 0, 0) := by decide +kernel
theorem vr_217_16 : zrx 217 16 = some (.astore 5, 0, 0) := by decide +kernel
theorem vr_217_18 : zrx 217 18 = some (.iconst 1, 0, 0) := by decide +kernel
theorem vr_217_19 : zrx 217 19 = some (.ireturn, 0, 0) := by decide +kernel
theorem vr_217_20 : zrx 217 20 = some (.astore 5, 0, 0) := by decide +kernel
theorem vr_217_22 : zrx 217 22 = some (.iconst 2, 0, 0) := by decide +kernel
theorem vr_217_23 : zrx 217 23 = some (.ireturn, 0, 0) := by decide +kernel
theorem vr_217_24 : zrx 217 24 = some (.iconst 0, 0, 0) := by decide +kernel
theorem vr_217_25 : zrx 217 25 = some (.ireturn, 0, 0) := by decide +kernel
theorem vr_218_0 : zrx 218 0 = some (.aload 4, 0, 0) := by decide +kernel
theorem vr_218_2 : zrx 218 2 = some (.aload_n 0, 0, 0) := by decide +kernel
theorem vr_218_3 : zrx 218 3 = some (.iload_n 1, 0, 0) := by decide +kernel
theorem vr_218_4 : zrx 218 4 = some (.iload_n 2, 0, 0) := by decide +kernel
theorem vr_218_5 : zrx 218 5 = some (.iload_n 3, 0, 0) := by decide +kernel
theorem vr_218_6 : zrx 218 6 = some (.invokevirtual 57, 67, 140) := by decide +kernel
theorem vr_218_9 : zrx 218 9 = some (.i2l, 0, 0) := by decide +kernel
theorem vr_218_10 : zrx 218 10 = some (.putfield 13, 14, 1000) := by decide +kernel
theorem vr_218_13 : zrx 218 13 = some (.goto 11, 0, 0) := by decide +kernel
theorem vr_218_16 : zrx 218 16 = some (.astore 5, 0, 0) := by decide +kernel
theorem vr_218_18 : zrx 218 18 = some (.iconst 1, 0, 0) := by decide +kernel
theorem vr_218_19 : zrx 218 19 = some (.ireturn, 0, 0) := by decide +kernel
theorem vr_218_20 : zrx 218 20 = some (.astore 5, 0, 0) := by decide +kernel
theorem vr_218_22 : zrx 218 22 = some (.iconst 2, 0, 0) := by decide +kernel
theorem vr_218_23 : zrx 218 23 = some (.ireturn, 0, 0) := by decide +kernel
theorem vr_218_24 : zrx 218 24 = some (.iconst 0, 0, 0) := by decide +kernel
theorem vr_218_25 : zrx 218 25 = some (.ireturn, 0, 0) := by decide +kernel
theorem vr_219_0 : zrx 219 0 = some (.aload_n 3, 0, 0) := by decide +kernel
theorem vr_219_1 : zrx 219 1 = some (.aload_n 0, 0, 0) := by decide +kernel
theorem vr_219_2 : zrx 219 2 = some (.iload_n 1, 0, 0) := by decide +kernel
theorem vr_219_3 : zrx 219 3 = some (.iload_n 2, 0, 0) := by decide +kernel
theorem vr_219_4 : zrx 219 4 = some (.invokevirtual 60, 68, 140) := by decide +kernel
theorem vr_219_7 : zrx 219 7 = some (.i2l, 0, 0) := by decide +kernel
theorem vr_219_8 : zrx 219 8 = some (.putfield 13, 14, 1000) := by decide +kernel
theorem vr_219_11 : zrx 219 11 = some (.goto 11, 0, 0) := by decide +kernel
theorem vr_219_14 : zrx 219 14 = some (.astore 4, 0, 0) := by decide +kernel
theorem vr_219_16 : zrx 219 16 = some (.iconst 1, 0, 0) := by decide +kernel
theorem vr_219_17 : zrx 219 17 = some (.ireturn, 0, 0) := by decide +kernel
theorem vr_219_18 : zrx 219 18 = some (.astore 4, 0, 0) := by decide +kernel
theorem vr_219_20 : zrx 219 20 = some (.iconst 2, 0, 0) := by decide +kernel
theorem vr_219_21 : zrx 219 21 = some (.ireturn, 0, 0) := by decide +kernel
theorem vr_219_22 : zrx 219 22 = some (.iconst 0, 0, 0) := by decide +kernel
theorem vr_219_23 : zrx 219 23 = some (.ireturn, 0, 0) := by decide +kernel
theorem vr_226_0 : zrx 226 0 = some (.aload_n 2, 0, 0) := by decide +kernel
theorem vr_226_1 : zrx 226 1 = some (.aload_n 0, 0, 0) := by decide +kernel
theorem vr_226_2 : zrx 226 2 = some (.iload_n 1, 0, 0) := by decide +kernel
theorem vr_226_3 : zrx 226 3 = some (.invokevirtual 81, 75, 140) := by decide +kernel
theorem vr_226_6 : zrx 226 6 = some (.i2l, 0, 0) := by decide +kernel
theorem vr_226_7 : zrx 226 7 = some (.putfield 13, 14, 1000) := by decide +kernel
theorem vr_226_10 : zrx 226 10 = some (.goto 9, 0, 0) := by decide +kernel
theorem vr_226_13 : zrx 226 13 = some (.astore_n 3, 0, 0) := by decide +kernel
theorem vr_226_14 : zrx 226 14 = some (.iconst 1, 0, 0) := by decide +kernel
theorem vr_226_15 : zrx 226 15 = some (.ireturn, 0, 0) := by decide +kernel
theorem vr_226_16 : zrx 226 16 = some (.astore_n 3, 0, 0) := by decide +kernel
theorem vr_226_17 : zrx 226 17 = some (.iconst 2, 0, 0) := by decide +kernel
theorem vr_226_18 : zrx 226 18 = some (.ireturn, 0, 0) := by decide +kernel
theorem vr_226_19 : zrx 226 19 = some (.iconst 0, 0, 0) := by decide +kernel
theorem vr_226_20 : zrx 226 20 = some (.ireturn, 0, 0) := by decide +kernel
theorem vr_259_0 : zrx 259 0 = some (.iload_n 0, 0, 0) := by decide +kernel
theorem vr_259_1 : zrx 259 1 = some (.iload_n 1, 0, 0) := by decide +kernel
theorem vr_259_2 : zrx 259 2 = some (.if_icmp .ge 7, 0, 0) := by decide +kernel
theorem vr_259_5 : zrx 259 5 = some (.iconst (-1), 0, 0) := by decide +kernel
theorem vr_259_6 : zrx 259 6 = some (.goto 13, 0, 0) := by decide +kernel
theorem vr_259_9 : zrx 259 9 = some (.iload_n 0, 0, 0) := by decide +kernel
theorem vr_259_10 : zrx 259 10 = some (.iload_n 1, 0, 0) := by decide +kernel
theorem vr_259_11 : zrx 259 11 = some (.if_icmp .ne 7, 0, 0) := by decide +kernel
theorem vr_259_14 : zrx 259 14 = some (.iconst 0, 0, 0) := by decide +kernel
theorem vr_259_15 : zrx 259 15 = some (.goto 4, 0, 0) := by decide +kernel
theorem vr_259_18 : zrx 259 18 = some (.iconst 1, 0, 0) := by decide +kernel
theorem vr_259_19 : zrx 259 19 = some (.ireturn, 0, 0) := by decide +kernel
theorem vh_66_2_0 : zHit (zi 66) 2 0 = none := by decide +kernel
theorem vh_66_7_0 : zHit (zi 66) 7 0 = none := by decide +kernel
theorem vh_66_14_1 : zHit (zi 66) 14 1 = none := by decide +kernel
theorem vh_67_2_0 : zHit (zi 67) 2 0 = none := by decide +kernel
theorem vh_67_7_0 : zHit (zi 67) 7 0 = none := by decide +kernel
theorem vh_67_14_1 : zHit (zi 67) 14 1 = none := by decide +kernel
theorem vh_68_2_0 : zHit (zi 68) 2 0 = none := by decide +kernel
theorem vh_68_9_1 : zHit (zi 68) 9 1 = none := by decide +kernel
theorem vh_75_5_1 : zHit (zi 75) 5 1 = none := by decide +kernel
theorem vh_75_25_2 : zHit (zi 75) 25 2 = none := by decide +kernel
theorem vh_217_6_0 : (zHit (zi 217) 6 0).map (fun r => r.2.2.1) = some 16 := by decide +kernel
theorem vh_217_6_1 : (zHit (zi 217) 6 1).map (fun r => r.2.2.1) = some 20 := by decide +kernel
theorem vh_218_6_0 : (zHit (zi 218) 6 0).map (fun r => r.2.2.1) = some 16 := by decide +kernel
theorem vh_218_6_1 : (zHit (zi 218) 6 1).map (fun r => r.2.2.1) = some 20 := by decide +kernel
theorem vh_219_4_0 : (zHit (zi 219) 4 0).map (fun r => r.2.2.1) = some 14 := by decide +kernel
theorem vh_219_4_1 : (zHit (zi 219) 4 1).map (fun r => r.2.2.1) = some 18 := by decide +kernel
theorem vh_226_3_1 : (zHit (zi 226) 3 1).map (fun r => r.2.2.1) = some 13 := by decide +kernel
theorem vh_226_3_2 : (zHit (zi 226) 3 2).map (fun r => r.2.2.1) = some 16 := by decide +kernel
theorem C_pass (n : Nat) (x : Int32) (h : List zC) (u : Nat) {day : Int32} (hd : gF h 16 0 = some (.int day)) : zL zrx zi n 75 0 [(0, .ref 16), (1, .int x)] [] h u (fun o h2 _ => match o with
  | .inl v => (rI 1 400 x ∧ day + x ≤ 3000) ∧ v = some (.int (day + x)) ∧ hPut h h2 16 0 (.int (day + x))
  | .inr E => hExt h h2 ∧ ((E = 1 ∧ ¬ rI 1 400 x) ∨ (E = 2 ∧ rI 1 400 x ∧ ¬ day + x ≤ 3000))) := by
  refine zSiload (m := 1) (k := 1) vr_75_0 rfl rfl rfl (fun x2349 e2349 => ?_)
  cases e2349
  refine zSp0 (pc' := 2) (st' := .int (1) :: _) vr_75_1 rfl rfl ?_
  refine zSp0 (pc' := 5) (st' := .int (400) :: _) vr_75_2 rfl rfl ?_
  refine zScall vr_75_5 rfl rfl rfl (fun m2352 _ => C_val _ _ _ _ _ _) (fun v2352 h2352 u2352 q2352 => ?_) (fun E2352 h2352 u2352 q2352 => ?_)
  · obtain ⟨eh2352, rfl, r1⟩ := q2352
    replace eh2352 := eh2352.symm
    subst eh2352
    show zL zrx zi _ 75 8 [(0, _), (1, _)] [] _ _ _
    refine zSaload (m := 1) (k := 0) vr_75_8 rfl rfl rfl ?_
    refine zLget vr_75_9 rfl (fun p2354 w2354 e2354 t2354 g2354 => ?_)
    cases e2354
    first | (rw [hd] at g2354; cases g2354) | skip
    refine zSiload (m := 1) (k := 1) vr_75_12 rfl rfl rfl (fun x2355 e2355 => ?_)
    cases e2355
    refine zS2 (f := fun x y => .int (x + y)) vr_75_13 rfl rfl (fun x2356 y2356 e2356 f2356 => ?_)
    cases e2356
    cases f2356
    refine zSp0 (pc' := 17) (st' := .int (3000) :: _) vr_75_14 rfl rfl ?_
    refine zSb2 (f := fun x y => decide (y < x)) (off := 7) (t := 24) vr_75_17 rfl rfl rfl (fun x2358 y2358 e2358 f2358 q2358 => ?_) (fun x2358 y2358 e2358 f2358 q2358 => ?_)
    · cases e2358
      cases f2358
      have c2358 := of_decide_eq_true q2358
      refine zSp0 (pc' := 25) (st' := .int (0) :: _) vr_75_24 rfl rfl ?_
      refine zScall vr_75_25 rfl rfl rfl (fun m _ => C_needState _ _ _ _) (fun v h u q => absurd rfl q.2.2) (fun E h3 u q => ?_)
      obtain ⟨rfl, -, q2⟩ := q
      rw [zCat_no vh_75_25_2]
      exact ⟨q2, Or.inr ⟨rfl, r1, fun z => absurd c2358 (Int32.not_lt.mpr z)⟩⟩
    · cases e2358
      cases f2358
      have c2358 := ndc q2358
      refine zSp0 (pc' := 21) (st' := .int (1) :: _) vr_75_20 rfl rfl ?_
      refine zSgo (t := 25) vr_75_21 rfl rfl ?_
      refine zScall vr_75_25 rfl rfl rfl (fun m2361 _ => C_needState _ _ _ _) (fun v2361 h2361 u2361 q2361 => ?_) (fun E2361 h2361 u2361 q2361 => ?_)
      · obtain ⟨eh2361, rfl, -⟩ := q2361
        replace eh2361 := eh2361.symm
        subst eh2361
        show zL zrx zi _ 75 28 [(0, _), (1, _)] [] _ _ _
        have c17 := Int32.not_lt.mp c2358
        refine zSaload (m := 1) (k := 0) vr_75_28 rfl rfl rfl ?_
        refine zSdup vr_75_29 rfl ?_
        refine zLget vr_75_30 rfl (fun p2364 w2364 e2364 t2364 g2364 => ?_)
        cases e2364
        first | (rw [hd] at g2364; cases g2364) | skip
        refine zSiload (m := 1) (k := 1) vr_75_33 rfl rfl rfl (fun x2365 e2365 => ?_)
        cases e2365
        refine zS2 (f := fun x y => .int (x + y)) vr_75_34 rfl rfl (fun x2366 y2366 e2366 f2366 => ?_)
        cases e2366
        cases f2366
        refine zLput vr_75_35 rfl (fun p2367 k2367 e2367 t2367 g2367 => ?_)
        cases e2367
        have hd2 : gF k2367 16 0 = some (.int (day + x)) := by
          rw [g2367.2.1, if_pos ⟨rfl, rfl⟩]
        refine zSaload (m := 1) (k := 0) vr_75_38 rfl rfl rfl ?_
        refine zLget vr_75_39 rfl (fun p2369 w2369 e2369 t2369 g2369 => ?_)
        cases e2369
        first | (rw [hd2] at g2369; cases g2369) | skip
        refine zLiret vr_75_42 rfl (fun x2370 e2370 => ?_)
        cases e2370
        exact ⟨⟨r1, c17⟩, rfl, g2367⟩
      · obtain ⟨-, z, -⟩ := q2361
        exact absurd z (by decide)
  · obtain ⟨rfl, q1, q2⟩ := q2352
    rw [zCat_no vh_75_5_1]
    exact ⟨q2, Or.inl ⟨rfl, q1⟩⟩
abbrev Q_Lpass (day : Int32) (x : Int32) (h : List zC) : zK := fun o h2 _ => ∃ k : Int32, o = .inl (some (.int k)) ∧
  ((k = 0 ∧ (rI 1 400 x ∧ day + x ≤ 3000) ∧ ∃ h1, hPut h h1 16 0 (.int (day + x)) ∧ hPut h1 h2 238 0 (.long (day + x).toInt64)) ∨ (k = 1 ∧ ¬ rI 1 400 x ∧ hExt h h2) ∨ (k = 2 ∧ rI 1 400 x ∧ ¬ day + x ≤ 3000 ∧ hExt h h2))
theorem C_Lpass (n : Nat) (x : Int32) (h : List zC) (u : Nat) {day : Int32} (hd : gF h 16 0 = some (.int day)) : zL zrx zi n 226 0 [(0, .ref 16), (1, .int x), (2, .ref 238)] [] h u (Q_Lpass day x h) := by
  refine zSaload (m := 1) (k := 2) vr_226_0 rfl rfl rfl ?_
  refine zSaload (m := 1) (k := 0) vr_226_1 rfl rfl rfl ?_
  refine zSiload (m := 1) (k := 1) vr_226_2 rfl rfl rfl (fun x2373 e2373 => ?_)
  cases e2373
  refine zScall vr_226_3 rfl rfl rfl (fun m2374 _ => C_pass _ _ _ _ hd) (fun v2374 h2374 u2374 q2374 => ?_) (fun E2374 h2374 u2374 q2374 => ?_)
  · obtain ⟨k1, rfl, k2⟩ := q2374
    show zL zrx zi _ 226 6 [(0, _), (1, _), (2, _)] [_, _] _ _ _
    refine zS1 (f := fun x => .long x.toInt64) vr_226_6 rfl rfl (fun x2375 e2375 => ?_)
    cases e2375
    refine zLput vr_226_7 rfl (fun p2376 k2376 e2376 t2376 g2376 => ?_)
    cases e2376
    have gP := g2376
    refine zSgo (t := 19) vr_226_10 rfl rfl ?_
    refine zSp0 (pc' := 20) (st' := .int (0) :: _) vr_226_19 rfl rfl ?_
    refine zLiret vr_226_20 rfl (fun x2379 e2379 => ?_)
    cases e2379
    exact ⟨_, rfl, Or.inl ⟨rfl, k1, _, k2, gP⟩⟩
  · obtain ⟨q1, ⟨rfl, z⟩ | ⟨rfl, z⟩⟩ := q2374
    · rw [zCat_hit (k := 3) (m := 1) vh_226_3_1 vr_226_13 rfl (by decide)]
      show zL zrx zi _ 226 14 [(0, _), (1, _), (2, _)] [] _ _ _
      refine zSp0 (pc' := 15) (st' := .int (1) :: _) vr_226_14 rfl rfl ?_
      refine zLiret vr_226_15 rfl (fun x2381 e2381 => ?_)
      cases e2381
      exact ⟨_, rfl, Or.inr (Or.inl ⟨rfl, z, q1⟩)⟩
    · rw [zCat_hit (k := 3) (m := 1) vh_226_3_2 vr_226_16 rfl (by decide)]
      show zL zrx zi _ 226 17 [(0, _), (1, _), (2, _)] [] _ _ _
      refine zSp0 (pc' := 18) (st' := .int (2) :: _) vr_226_17 rfl rfl ?_
      refine zLiret vr_226_18 rfl (fun x2383 e2383 => ?_)
      cases e2383
      exact ⟨_, rfl, Or.inr (Or.inr ⟨rfl, z.1, z.2, q1⟩)⟩
abbrev Q_mpass (day : Int32) (x : Int32) (h : List zC) : zK := fun o h2 _ => ∃ (r : Int32) (h0 : List zC), o = .inl (some (.int r)) ∧ hPut h h0 213 0 (.int 0) ∧ (((rI 1 400 x ∧ day + x ≤ 3000) ∧ r = day + x ∧ hPut h0 h2 213 1 (.int (day + x))) ∨ (¬ rI 1 400 x ∧ hPut h0 h2 213 0 (.int 1)) ∨ (rI 1 400 x ∧ ¬ day + x ≤ 3000 ∧ hPut h0 h2 213 0 (.int 2)))
theorem C_mpass (n : Nat) (x : Int32) (h : List zC) (u : Nat) {day : Int32} (hd : gF h 213 1 = some (.int day)) : zL zrx zi n 176 0 [(0, .ref 213), (1, .int x)] [] h u (Q_mpass day x h) := by
  refine zSaload (m := 1) (k := 0) vr_176_0 rfl rfl rfl ?_
  refine zSp0 (pc' := 2) (st' := .int (0) :: _) vr_176_1 rfl rfl ?_
  refine zLput vr_176_2 rfl (fun p2386 k2386 e2386 t2386 g2386 => ?_)
  cases e2386
  have t0 := g2386
  have hd0 : gF k2386 213 1 = some (.int day) := by rw [t0.2.1, if_neg (by omega)]; exact hd
  refine zSiload (m := 1) (k := 1) vr_176_5 rfl rfl rfl (fun x2387 e2387 => ?_)
  cases e2387
  refine zSp0 (pc' := 7) (st' := .int (1) :: _) vr_176_6 rfl rfl ?_
  refine zSp0 (pc' := 10) (st' := .int (400) :: _) vr_176_7 rfl rfl ?_
  refine zScall vr_176_10 rfl rfl rfl (fun m2390 _ => C_in _ _ _ _ _ _) (fun v2390 h2390 u2390 q2390 => ?_) (fun E2390 h2390 u2390 q2390 => ?_)
  · obtain ⟨eh2390, z2390⟩ := q2390
    replace eh2390 := eh2390.symm
    subst eh2390
    cases z2390
    show zL zrx zi _ 176 13 [(0, _), (1, _)] [_] _ _ _
    refine zSb1 (f := fun x => decide (¬ x = 0)) (off := 9) (t := 22) vr_176_13 rfl rfl rfl (fun x2391 e2391 q2391 => ?_) (fun x2391 e2391 q2391 => ?_)
    · cases e2391
      have c2391 := of_decide_eq_true q2391
      refine zSaload (m := 1) (k := 0) vr_176_22 rfl rfl rfl ?_
      refine zLget vr_176_23 rfl (fun p2393 w2393 e2393 t2393 g2393 => ?_)
      cases e2393
      first | (rw [hd0] at g2393; cases g2393) | skip
      refine zSiload (m := 1) (k := 1) vr_176_26 rfl rfl rfl (fun x2394 e2394 => ?_)
      cases e2394
      refine zS2 (f := fun x y => .int (x + y)) vr_176_27 rfl rfl (fun x2395 y2395 e2395 f2395 => ?_)
      cases e2395
      cases f2395
      refine zSp0 (pc' := 31) (st' := .int (3000) :: _) vr_176_28 rfl rfl ?_
      refine zSb2 (f := fun x y => decide (x ≤ y)) (off := 9) (t := 40) vr_176_31 rfl rfl rfl (fun x2397 y2397 e2397 f2397 q2397 => ?_) (fun x2397 y2397 e2397 f2397 q2397 => ?_)
      · cases e2397
        cases f2397
        have c2397 := of_decide_eq_true q2397
        refine zSaload (m := 1) (k := 0) vr_176_40 rfl rfl rfl ?_
        refine zSdup vr_176_41 rfl ?_
        refine zLget vr_176_42 rfl (fun p2400 w2400 e2400 t2400 g2400 => ?_)
        cases e2400
        first | (rw [hd0] at g2400; cases g2400) | skip
        refine zSiload (m := 1) (k := 1) vr_176_45 rfl rfl rfl (fun x2401 e2401 => ?_)
        cases e2401
        refine zS2 (f := fun x y => .int (x + y)) vr_176_46 rfl rfl (fun x2402 y2402 e2402 f2402 => ?_)
        cases e2402
        cases f2402
        refine zLput vr_176_47 rfl (fun p2403 k2403 e2403 t2403 g2403 => ?_)
        cases e2403
        have hd2 : gF k2403 213 1 = some (.int (day + x)) := by
          rw [g2403.2.1, if_pos ⟨rfl, rfl⟩]
        refine zSaload (m := 1) (k := 0) vr_176_50 rfl rfl rfl ?_
        refine zLget vr_176_51 rfl (fun p2405 w2405 e2405 t2405 g2405 => ?_)
        cases e2405
        first | (rw [hd2] at g2405; cases g2405) | skip
        refine zLiret vr_176_54 rfl (fun x2406 e2406 => ?_)
        cases e2406
        exact ⟨_, _, rfl, t0, Or.inl ⟨⟨inB_y c2391, c2397⟩, rfl, g2403⟩⟩
      · cases e2397
        cases f2397
        have c2397 := ndc q2397
        refine zSaload (m := 1) (k := 0) vr_176_34 rfl rfl rfl ?_
        refine zSp0 (pc' := 36) (st' := .int (2) :: _) vr_176_35 rfl rfl ?_
        refine zScall vr_176_36 rfl rfl rfl (fun m2409 _ => C_no _ _ _ _ _) (fun v2409 h2409 u2409 q2409 => ?_) (fun E2409 h2409 u2409 q2409 => ?_)
        · obtain ⟨gn2409, z2409⟩ := q2409
          cases z2409
          show zL zrx zi _ 176 39 [(0, _), (1, _)] [_] _ _ _
          refine zLiret vr_176_39 rfl (fun x2410 e2410 => ?_)
          cases e2410
          exact ⟨_, _, rfl, t0, Or.inr (Or.inr ⟨inB_y c2391, c2397, gn2409⟩)⟩
        · obtain ⟨-, z⟩ := q2409
          cases z
    · cases e2391
      have c2391 := ndc q2391
      refine zSaload (m := 1) (k := 0) vr_176_16 rfl rfl rfl ?_
      refine zSp0 (pc' := 18) (st' := .int (1) :: _) vr_176_17 rfl rfl ?_
      refine zScall vr_176_18 rfl rfl rfl (fun m2413 _ => C_no _ _ _ _ _) (fun v2413 h2413 u2413 q2413 => ?_) (fun E2413 h2413 u2413 q2413 => ?_)
      · obtain ⟨gn2413, z2413⟩ := q2413
        cases z2413
        show zL zrx zi _ 176 21 [(0, _), (1, _)] [_] _ _ _
        refine zLiret vr_176_21 rfl (fun x2414 e2414 => ?_)
        cases e2414
        exact ⟨_, _, rfl, t0, Or.inr (Or.inl ⟨inB_n (Decidable.not_not.mp c2391), gn2413⟩)⟩
      · obtain ⟨-, z⟩ := q2413
        cases z
  · obtain ⟨-, z⟩ := q2390
    cases z
theorem C_cmpI (n : Nat) (a b : Int32) (h : List zC) (u : Nat) : zL zrx zi n 259 0 [(0, .int a), (1, .int b)] [] h u (fun o h2 _ => h2 = h ∧ o = .inl (some (.int (cmpI a b)))) := by
  refine zSiload (m := 1) (k := 0) vr_259_0 rfl rfl rfl (fun x2415 e2415 => ?_)
  cases e2415
  refine zSiload (m := 1) (k := 1) vr_259_1 rfl rfl rfl (fun x2416 e2416 => ?_)
  cases e2416
  refine zSb2 (f := fun x y => decide (y ≤ x)) (off := 7) (t := 9) vr_259_2 rfl rfl rfl (fun x2417 y2417 e2417 f2417 q2417 => ?_) (fun x2417 y2417 e2417 f2417 q2417 => ?_)
  · cases e2417
    cases f2417
    have c2417 := of_decide_eq_true q2417
    refine zSiload (m := 1) (k := 0) vr_259_9 rfl rfl rfl (fun x2418 e2418 => ?_)
    cases e2418
    refine zSiload (m := 1) (k := 1) vr_259_10 rfl rfl rfl (fun x2419 e2419 => ?_)
    cases e2419
    refine zSb2 (f := fun x y => decide (¬ x = y)) (off := 7) (t := 18) vr_259_11 rfl rfl rfl (fun x2420 y2420 e2420 f2420 q2420 => ?_) (fun x2420 y2420 e2420 f2420 q2420 => ?_)
    · cases e2420
      cases f2420
      have c2420 := of_decide_eq_true q2420
      refine zSp0 (pc' := 19) (st' := .int (1) :: _) vr_259_18 rfl rfl ?_
      refine zLiret vr_259_19 rfl (fun x2422 e2422 => ?_)
      cases e2422
      refine ⟨rfl, ?_⟩
      unfold cmpI
      first
        | rw [if_pos (Int32.not_le.mp c2417)]
        | rw [if_neg (Int32.not_lt.mpr c2417), if_pos (Decidable.not_not.mp c2420)]
        | rw [if_neg (Int32.not_lt.mpr c2417), if_neg c2420]
    · cases e2420
      cases f2420
      have c2420 := ndc q2420
      refine zSp0 (pc' := 15) (st' := .int (0) :: _) vr_259_14 rfl rfl ?_
      refine zSgo (t := 19) vr_259_15 rfl rfl ?_
      refine zLiret vr_259_19 rfl (fun x2425 e2425 => ?_)
      cases e2425
      refine ⟨rfl, ?_⟩
      unfold cmpI
      first
        | rw [if_pos (Int32.not_le.mp c2417)]
        | rw [if_neg (Int32.not_lt.mpr c2417), if_pos (Decidable.not_not.mp c2420)]
        | rw [if_neg (Int32.not_lt.mpr c2417), if_neg c2420]
  · cases e2417
    cases f2417
    have c2417 := ndc q2417
    refine zSp0 (pc' := 6) (st' := .int (-1) :: _) vr_259_5 rfl rfl ?_
    refine zSgo (t := 19) vr_259_6 rfl rfl ?_
    refine zLiret vr_259_19 rfl (fun x2428 e2428 => ?_)
    cases e2428
    refine ⟨rfl, ?_⟩
    unfold cmpI
    first
      | rw [if_pos (Int32.not_le.mp c2417)]
      | rw [if_neg (Int32.not_lt.mpr c2417), if_pos (Decidable.not_not.mp c2420)]
      | rw [if_neg (Int32.not_lt.mpr c2417), if_neg c2420]
theorem C_likes (n : Nat) (C : Nat) (h : List zC) (u : Nat) {f : Nat} (hS : Stc h) (hf : f < 4) : zL zrx zi n 38 0 [(0, .ref (171 + 3 * f)), (1, .ref C)] [] h u (fun o h2 _ => h2 = h ∧ o = .inl (some (.int (lkC h f C)))) := by
  refine zSaload (m := 1) (k := 0) vr_38_0 rfl rfl rfl ?_
  refine zLget vr_38_1 rfl (fun p2430 w2430 e2430 t2430 g2430 => ?_)
  cases e2430
  first | (rw [(st_fm hS hf)] at g2430; cases g2430) | skip
  refine zSaload (m := 1) (k := 1) vr_38_4 rfl rfl rfl ?_
  refine zLget vr_38_5 rfl (fun p2432 w2432 e2432 t2432 g2432 => ?_)
  cases e2432
  first | (rw [(st_fm hS hf)] at g2432; cases g2432) | skip
  refine zLiald vr_38_8 rfl (fun p2433 x2433 w2433 e2433 f2433 c2433 t2433 g2433 => ?_)
  cases e2433
  cases f2433
  first | (rw [(st_fm hS hf)] at g2433; cases g2433) | skip
  refine zSistore (m := 1) (k := 2) vr_38_9 rfl rfl (fun x2434 e2434 => ?_)
  cases e2434
  show zL zrx zi _ 38 10 [(2, _), (0, _), (1, _)] [] _ _ _
  refine zSaload (m := 1) (k := 1) vr_38_10 rfl rfl rfl ?_
  refine zLget vr_38_11 rfl (fun p2436 w2436 e2436 t2436 g2436 => ?_)
  cases e2436
  first | (rw [(st_fm hS hf)] at g2436; cases g2436) | skip
  refine zSb1 (f := fun x => decide (0 ≤ x)) (off := 7) (t := 21) vr_38_14 rfl rfl rfl (fun x2437 e2437 q2437 => ?_) (fun x2437 e2437 q2437 => ?_)
  · cases e2437
    have c2437 := of_decide_eq_true q2437
    refine zSiload (m := 1) (k := 2) vr_38_21 rfl rfl rfl (fun x2438 e2438 => ?_)
    cases e2438
    refine zSaload (m := 1) (k := 0) vr_38_22 rfl rfl rfl ?_
    refine zLget vr_38_23 rfl (fun p2440 w2440 e2440 t2440 g2440 => ?_)
    cases e2440
    first | (rw [(st_fm hS hf)] at g2440; cases g2440) | skip
    refine zSaload (m := 1) (k := 1) vr_38_26 rfl rfl rfl ?_
    refine zLget vr_38_27 rfl (fun p2442 w2442 e2442 t2442 g2442 => ?_)
    cases e2442
    first | (rw [(st_fm hS hf)] at g2442; cases g2442) | skip
    refine zSp0 (pc' := 32) (st' := .int (50) :: _) vr_38_30 rfl rfl ?_
    refine zS2 (f := fun x y => .int (x - y)) vr_38_32 rfl rfl (fun x2444 y2444 e2444 f2444 => ?_)
    cases e2444
    cases f2444
    refine zS2 (f := fun x y => .int (x * y)) vr_38_33 rfl rfl (fun x2445 y2445 e2445 f2445 => ?_)
    cases e2445
    cases f2445
    refine zSp0 (pc' := 36) (st' := .int (25) :: _) vr_38_34 rfl rfl ?_
    refine zSdiv vr_38_36 rfl (fun x2447 y2447 e2447 f2447 g2447 => ?_)
    cases e2447
    cases f2447
    refine zS2 (f := fun x y => .int (x + y)) vr_38_37 rfl rfl (fun x2448 y2448 e2448 f2448 => ?_)
    cases e2448
    cases f2448
    refine zLiret vr_38_38 rfl (fun x2449 e2449 => ?_)
    cases e2449
    refine ⟨rfl, ?_⟩
    unfold lkC lk
    rw [iv_of g2432, iv_of g2433, iv_of g2436]
    have z0 := z0I
    first
      | rw [if_pos (Int32.not_le.mp c2437)]
      | (have e := (iv_of g2436).symm.trans (iv_of g2442)
         rw [iv_of g2440, if_neg (Int32.not_lt.mpr c2437), e])
  · cases e2437
    have c2437 := ndc q2437
    refine zSiload (m := 1) (k := 2) vr_38_17 rfl rfl rfl (fun x2450 e2450 => ?_)
    cases e2450
    refine zSgo (t := 38) vr_38_18 rfl rfl ?_
    refine zLiret vr_38_38 rfl (fun x2452 e2452 => ?_)
    cases e2452
    refine ⟨rfl, ?_⟩
    unfold lkC lk
    rw [iv_of g2432, iv_of g2433, iv_of g2436]
    have z0 := z0I
    first
      | rw [if_pos (Int32.not_le.mp c2437)]
      | (have e := (iv_of g2436).symm.trans (iv_of g2442)
         rw [iv_of g2440, if_neg (Int32.not_lt.mpr c2437), e])
theorem C_stance (n : Nat) (rep : Int32) (h : List zC) (u : Nat) {f : Nat} (hS : Stc h) (hf : f < 4) {A C : Nat} (hC : gF h A 1 = some (.ref C)) : zL zrx zi n 39 0 [(0, .ref (171 + 3 * f)), (1, .ref A), (2, .int rep)] [] h u (fun o h2 _ => h2 = h ∧ o = .inl (some (.int (sideC rep (iv h (171 + 3 * f) 3) (iv h A 0) (lkC h f C))))) := by
  refine zSiload (m := 1) (k := 2) vr_39_0 rfl rfl rfl (fun x2453 e2453 => ?_)
  cases e2453
  refine zSb1 (f := fun x => decide (¬ x = 0)) (off := 16) (t := 17) vr_39_1 rfl rfl rfl (fun x2454 e2454 q2454 => ?_) (fun x2454 e2454 q2454 => ?_)
  · cases e2454
    have c2454 := of_decide_eq_true q2454
    refine zSaload (m := 1) (k := 0) vr_39_17 rfl rfl rfl ?_
    refine zSaload (m := 1) (k := 1) vr_39_18 rfl rfl rfl ?_
    refine zLget vr_39_19 rfl (fun p2457 w2457 e2457 t2457 g2457 => ?_)
    cases e2457
    first | (rw [hC] at g2457; cases g2457) | skip
    refine zScall vr_39_22 rfl rfl rfl (fun m2458 _ => C_likes _ _ _ _ hS hf) (fun v2458 h2458 u2458 q2458 => ?_) (fun E2458 h2458 u2458 q2458 => ?_)
    · obtain ⟨eh2458, z2458⟩ := q2458
      replace eh2458 := eh2458.symm
      subst eh2458
      cases z2458
      show zL zrx zi _ 39 25 [(0, _), (1, _), (2, _)] [_] _ _ _
      refine zSp0 (pc' := 26) (st' := .int (0) :: _) vr_39_25 rfl rfl ?_
      refine zScall vr_39_26 rfl rfl rfl (fun m2460 _ => C_cmpI _ _ _ _ _) (fun v2460 h2460 u2460 q2460 => ?_) (fun E2460 h2460 u2460 q2460 => ?_)
      · obtain ⟨eh2460, z2460⟩ := q2460
        replace eh2460 := eh2460.symm
        subst eh2460
        cases z2460
        show zL zrx zi _ 39 29 [(0, _), (1, _), (2, _)] [_] _ _ _
        refine zSistore (m := 1) (k := 3) vr_39_29 rfl rfl (fun x2461 e2461 => ?_)
        cases e2461
        show zL zrx zi _ 39 30 [(3, _), (0, _), (1, _), (2, _)] [] _ _ _
        refine zSiload (m := 1) (k := 2) vr_39_30 rfl rfl rfl (fun x2462 e2462 => ?_)
        cases e2462
        refine zSb1 (f := fun x => decide (x = 0)) (off := 8) (t := 39) vr_39_31 rfl rfl rfl (fun x2463 e2463 q2463 => ?_) (fun x2463 e2463 q2463 => ?_)
        · cases e2463
          have c2463 := of_decide_eq_true q2463
          refine zSiload (m := 1) (k := 3) vr_39_39 rfl rfl rfl (fun x2464 e2464 => ?_)
          cases e2464
          refine zLiret vr_39_40 rfl (fun x2465 e2465 => ?_)
          cases e2465
          refine ⟨rfl, ?_⟩
          unfold sideC
          first
            | rw [if_neg c2463]
            | exact absurd c2463 c2454
            | rw [iv_of g2432, iv_of g2434, if_pos c2463, if_neg c2355]
        · cases e2463
          have c2463 := ndc q2463
          refine zSiload (m := 1) (k := 3) vr_39_34 rfl rfl rfl (fun x2466 e2466 => ?_)
          cases e2466
          refine zS1 (f := fun x => .int (-x)) vr_39_35 rfl rfl (fun x2467 e2467 => ?_)
          cases e2467
          refine zSgo (t := 40) vr_39_36 rfl rfl ?_
          refine zLiret vr_39_40 rfl (fun x2469 e2469 => ?_)
          cases e2469
          refine ⟨rfl, ?_⟩
          unfold sideC
          first
            | rw [if_neg c2463]
            | exact absurd c2463 c2454
            | rw [iv_of g2432, iv_of g2434, if_pos c2463, if_neg c2355]
      · obtain ⟨-, z⟩ := q2460
        cases z
    · obtain ⟨-, z⟩ := q2458
      cases z
  · cases e2454
    have c2454 := ndc q2454
    refine zSaload (m := 1) (k := 0) vr_39_4 rfl rfl rfl ?_
    refine zLget vr_39_5 rfl (fun p2471 w2471 e2471 t2471 g2471 => ?_)
    cases e2471
    first | (rw [hC] at g2471; cases g2471) | skip
    refine zSaload (m := 1) (k := 1) vr_39_8 rfl rfl rfl ?_
    refine zLget vr_39_9 rfl (fun p2473 w2473 e2473 t2473 g2473 => ?_)
    cases e2473
    first | (rw [hC] at g2473; cases g2473) | skip
    refine zSb2 (f := fun x y => decide (¬ x = y)) (off := 5) (t := 17) vr_39_12 rfl rfl rfl (fun x2474 y2474 e2474 f2474 q2474 => ?_) (fun x2474 y2474 e2474 f2474 q2474 => ?_)
    · cases e2474
      cases f2474
      have c2474 := of_decide_eq_true q2474
      refine zSaload (m := 1) (k := 0) vr_39_17 rfl rfl rfl ?_
      refine zSaload (m := 1) (k := 1) vr_39_18 rfl rfl rfl ?_
      refine zLget vr_39_19 rfl (fun p2477 w2477 e2477 t2477 g2477 => ?_)
      cases e2477
      first | (rw [hC] at g2477; cases g2477) | skip
      refine zScall vr_39_22 rfl rfl rfl (fun m2478 _ => C_likes _ _ _ _ hS hf) (fun v2478 h2478 u2478 q2478 => ?_) (fun E2478 h2478 u2478 q2478 => ?_)
      · obtain ⟨eh2478, z2478⟩ := q2478
        replace eh2478 := eh2478.symm
        subst eh2478
        cases z2478
        show zL zrx zi _ 39 25 [(0, _), (1, _), (2, _)] [_] _ _ _
        refine zSp0 (pc' := 26) (st' := .int (0) :: _) vr_39_25 rfl rfl ?_
        refine zScall vr_39_26 rfl rfl rfl (fun m2480 _ => C_cmpI _ _ _ _ _) (fun v2480 h2480 u2480 q2480 => ?_) (fun E2480 h2480 u2480 q2480 => ?_)
        · obtain ⟨eh2480, z2480⟩ := q2480
          replace eh2480 := eh2480.symm
          subst eh2480
          cases z2480
          show zL zrx zi _ 39 29 [(0, _), (1, _), (2, _)] [_] _ _ _
          refine zSistore (m := 1) (k := 3) vr_39_29 rfl rfl (fun x2481 e2481 => ?_)
          cases e2481
          show zL zrx zi _ 39 30 [(3, _), (0, _), (1, _), (2, _)] [] _ _ _
          refine zSiload (m := 1) (k := 2) vr_39_30 rfl rfl rfl (fun x2482 e2482 => ?_)
          cases e2482
          refine zSb1 (f := fun x => decide (x = 0)) (off := 8) (t := 39) vr_39_31 rfl rfl rfl (fun x2483 e2483 q2483 => ?_) (fun x2483 e2483 q2483 => ?_)
          · cases e2483
            have c2483 := of_decide_eq_true q2483
            refine zSiload (m := 1) (k := 3) vr_39_39 rfl rfl rfl (fun x2484 e2484 => ?_)
            cases e2484
            refine zLiret vr_39_40 rfl (fun x2485 e2485 => ?_)
            cases e2485
            refine ⟨rfl, ?_⟩
            unfold sideC
            first
              | rw [if_neg c2483]
              | exact absurd c2483 c2454
              | rw [iv_of g2471, iv_of g2473, if_pos c2483, if_neg c2474]
          · cases e2483
            have c2483 := ndc q2483
            refine zSiload (m := 1) (k := 3) vr_39_34 rfl rfl rfl (fun x2486 e2486 => ?_)
            cases e2486
            refine zS1 (f := fun x => .int (-x)) vr_39_35 rfl rfl (fun x2487 e2487 => ?_)
            cases e2487
            refine zSgo (t := 40) vr_39_36 rfl rfl ?_
            refine zLiret vr_39_40 rfl (fun x2489 e2489 => ?_)
            cases e2489
            refine ⟨rfl, ?_⟩
            unfold sideC
            first
              | rw [if_neg c2483]
              | exact absurd c2483 c2454
              | rw [iv_of g2471, iv_of g2473, if_pos c2483, if_neg c2474]
        · obtain ⟨-, z⟩ := q2480
          cases z
      · obtain ⟨-, z⟩ := q2478
        cases z
    · cases e2474
      cases f2474
      have c2474 := ndc q2474
      refine zSp0 (pc' := 16) (st' := .int (1) :: _) vr_39_15 rfl rfl ?_
      refine zLiret vr_39_16 rfl (fun x2491 e2491 => ?_)
      cases e2491
      refine ⟨rfl, ?_⟩
      unfold sideC
      rw [iv_of g2471, iv_of g2473, if_pos (Decidable.not_not.mp c2454), if_pos (Decidable.not_not.mp c2474)]
set_option maxRecDepth 20000 in
theorem C_bal_loop {h : List zC} {A C i : Nat} {hv rep : Int32} (hS : Stc h) (hC : gF h A 1 = some (.ref C)) (hi : hv.toNatClampNeg = i) : ∀ (n k : Nat) (r : Int32) (u : Nat), k ≤ 4 → bCs (fun f => iv h (173 + 3 * f) i) (fun f => sideC rep (iv h (171 + 3 * f) 3) (iv h A 0) (lkC h f C)) k = r → zL zrx zi n 51 6 [(5, .int (Int32.ofNat k)), (4, .int r), (0, .ref 169), (1, .int hv), (2, .ref A), (3, .int rep)] [] h u (fun o h2 _ => h2 = h ∧ o = .inl (some (.int (bCs (fun f => iv h (173 + 3 * f) i) (fun f => sideC rep (iv h (171 + 3 * f) 3) (iv h A 0) (lkC h f C)) 4))))
  | 0, _, _, _ => fun _ _ => trivial
  | n + 1, k, r, u => fun hk hD => by
    have kk := (toNat_ofNat (m := k) (by omega))
    have z4 : (4 : Int32).toInt = 4 := rfl
    refine zLp vr_51_6 rfl rfl ?_
    refine zSp0 (pc' := 9) (st' := .int (4) :: _) vr_51_8 rfl rfl ?_
    refine zSb2 (f := fun x y => decide (y ≤ x)) (off := 39) (t := 48) vr_51_9 rfl rfl rfl (fun x2493 y2493 e2493 f2493 q2493 => ?_) (fun x2493 y2493 e2493 f2493 q2493 => ?_)
    · cases e2493
      cases f2493
      have c2493 := of_decide_eq_true q2493
      refine zSiload (m := 2) (k := 4) vr_51_48 rfl rfl rfl (fun x2494 e2494 => ?_)
      cases e2494
      refine zLiret vr_51_50 rfl (fun x2495 e2495 => ?_)
      cases e2495
      have e : k = 4 := by
        have y := c2493
        rw [i32_le, kk.2, z4] at y
        omega
      subst e
      rw [hD]
      exact ⟨rfl, rfl⟩
    · cases e2493
      cases f2493
      have c2493 := ndc q2493
      have k4 : k < 4 := by
        have y := c2493
        rw [i32_le, kk.2, z4] at y
        omega
      have hI : gF h 170 (Int32.ofNat k).toNatClampNeg = some (.ref (171 + 3 * k)) := by
        rw [kk.1]
        exact st_fac hS k4
      refine zSiload (m := 2) (k := 4) vr_51_12 rfl rfl rfl (fun x2496 e2496 => ?_)
      cases e2496
      refine zSaload (m := 1) (k := 0) vr_51_14 rfl rfl rfl ?_
      refine zLget vr_51_15 rfl (fun p2498 w2498 e2498 t2498 g2498 => ?_)
      cases e2498
      first | (rw [(st_169_0 hS)] at g2498; cases g2498) | (rw [hI] at g2498; cases g2498) | (rw [(st_fs hS k4)] at g2498; cases g2498) | skip
      refine zSiload (m := 2) (k := 5) vr_51_18 rfl rfl rfl (fun x2499 e2499 => ?_)
      cases e2499
      refine zLaald vr_51_20 rfl (fun p2500 x2500 w2500 e2500 f2500 c2500 t2500 g2500 => ?_)
      cases e2500
      cases f2500
      first | (rw [(st_169_0 hS)] at g2500; cases g2500) | (rw [hI] at g2500; cases g2500) | (rw [(st_fs hS k4)] at g2500; cases g2500) | skip
      refine zLget vr_51_21 rfl (fun p2501 w2501 e2501 t2501 g2501 => ?_)
      cases e2501
      first | (rw [(st_169_0 hS)] at g2501; cases g2501) | (rw [hI] at g2501; cases g2501) | (rw [(st_fs hS k4)] at g2501; cases g2501) | skip
      refine zSiload (m := 1) (k := 1) vr_51_24 rfl rfl rfl (fun x2502 e2502 => ?_)
      cases e2502
      refine zLiald vr_51_25 rfl (fun p2503 x2503 w2503 e2503 f2503 c2503 t2503 g2503 => ?_)
      cases e2503
      cases f2503
      first | (rw [(st_169_0 hS)] at g2503; cases g2503) | (rw [hI] at g2503; cases g2503) | (rw [(st_fs hS k4)] at g2503; cases g2503) | skip
      have g25 := g2503
      rw [hi] at g25
      refine zSaload (m := 1) (k := 0) vr_51_26 rfl rfl rfl ?_
      refine zLget vr_51_27 rfl (fun p2505 w2505 e2505 t2505 g2505 => ?_)
      cases e2505
      first | (rw [(st_169_0 hS)] at g2505; cases g2505) | (rw [hI] at g2505; cases g2505) | (rw [(st_fs hS k4)] at g2505; cases g2505) | skip
      refine zSiload (m := 2) (k := 5) vr_51_30 rfl rfl rfl (fun x2506 e2506 => ?_)
      cases e2506
      refine zLaald vr_51_32 rfl (fun p2507 x2507 w2507 e2507 f2507 c2507 t2507 g2507 => ?_)
      cases e2507
      cases f2507
      first | (rw [(st_169_0 hS)] at g2507; cases g2507) | (rw [hI] at g2507; cases g2507) | (rw [(st_fs hS k4)] at g2507; cases g2507) | skip
      refine zSaload (m := 1) (k := 2) vr_51_33 rfl rfl rfl ?_
      refine zSiload (m := 1) (k := 3) vr_51_34 rfl rfl rfl (fun x2509 e2509 => ?_)
      cases e2509
      refine zScall vr_51_35 rfl rfl rfl (fun m2510 _ => C_stance _ _ _ _ hS k4 hC) (fun v2510 h2510 u2510 q2510 => ?_) (fun E2510 h2510 u2510 q2510 => ?_)
      · obtain ⟨eh2510, z2510⟩ := q2510
        replace eh2510 := eh2510.symm
        subst eh2510
        cases z2510
        show zL zrx zi _ 51 38 [(5, _), (4, _), (0, _), (1, _), (2, _), (3, _)] [_, _, _] _ _ _
        refine zS2 (f := fun x y => .int (x * y)) vr_51_38 rfl rfl (fun x2511 y2511 e2511 f2511 => ?_)
        cases e2511
        cases f2511
        refine zS2 (f := fun x y => .int (x + y)) vr_51_39 rfl rfl (fun x2512 y2512 e2512 f2512 => ?_)
        cases e2512
        cases f2512
        refine zSistore (m := 2) (k := 4) vr_51_40 rfl rfl (fun x2513 e2513 => ?_)
        cases e2513
        show zL zrx zi _ 51 42 [(4, _), (5, _), (0, _), (1, _), (2, _), (3, _)] [] _ _ _
        refine zSiinc vr_51_42 rfl rfl (fun x2514 e2514 => ?_)
        cases e2514
        show zL zrx zi _ 51 45 [(5, _), (4, _), (0, _), (1, _), (2, _), (3, _)] [] _ _ _
        refine zSgo (t := 6) vr_51_45 rfl rfl ?_
        rw [ofNat_succ]
        refine zL_pm _ _ _ [(5, _), (4, _), (0, _), (1, _), (2, _), (3, _)] _ _ _ _ _ ⟨(List.forall_mem_cons.mpr ⟨List.mem_cons_self, (List.forall_mem_cons.mpr ⟨(List.mem_cons_of_mem _ List.mem_cons_self), (List.forall_mem_cons.mpr ⟨(List.mem_cons_of_mem _ (List.mem_cons_of_mem _ List.mem_cons_self)), (List.forall_mem_cons.mpr ⟨(List.mem_cons_of_mem _ (List.mem_cons_of_mem _ (List.mem_cons_of_mem _ List.mem_cons_self))), (List.forall_mem_cons.mpr ⟨(List.mem_cons_of_mem _ (List.mem_cons_of_mem _ (List.mem_cons_of_mem _ (List.mem_cons_of_mem _ List.mem_cons_self)))), (List.forall_mem_cons.mpr ⟨(List.mem_cons_of_mem _ (List.mem_cons_of_mem _ (List.mem_cons_of_mem _ (List.mem_cons_of_mem _ (List.mem_cons_of_mem _ List.mem_cons_self))))), (fun _ h => absurd h List.not_mem_nil)⟩)⟩)⟩)⟩)⟩)⟩), show ([5, 4, 0, 1, 2, 3] : List Nat).Nodup by decide⟩ (C_bal_loop hS hC hi n (k + 1) _ _ (by omega) ?_)
        show bCs _ _ k + iv h (173 + 3 * k) i * _ = _
        rw [hD, iv_of g25]
      · obtain ⟨-, z⟩ := q2510
        cases z
theorem C_bal (n : Nat) (rep : Int32) (h : List zC) (u : Nat) {A C i : Nat} {hv : Int32} (hS : Stc h) (hC : gF h A 1 = some (.ref C)) (hi : hv.toNatClampNeg = i) : zL zrx zi n 51 0 [(0, .ref 169), (1, .int hv), (2, .ref A), (3, .int rep)] [] h u (fun o h2 _ => h2 = h ∧ o = .inl (some (.int (bCs (fun f => iv h (173 + 3 * f) i) (fun f => sideC rep (iv h (171 + 3 * f) 3) (iv h A 0) (lkC h f C)) 4)))) := by
  refine zSp0 (pc' := 1) (st' := .int (0) :: _) vr_51_0 rfl rfl ?_
  refine zSistore (m := 2) (k := 4) vr_51_1 rfl rfl (fun x2517 e2517 => ?_)
  cases e2517
  show zL zrx zi _ 51 3 [(4, _), (0, _), (1, _), (2, _), (3, _)] [] _ _ _
  refine zSp0 (pc' := 4) (st' := .int (0) :: _) vr_51_3 rfl rfl ?_
  refine zSistore (m := 2) (k := 5) vr_51_4 rfl rfl (fun x2519 e2519 => ?_)
  cases e2519
  show zL zrx zi _ 51 6 [(5, _), (4, _), (0, _), (1, _), (2, _), (3, _)] [] _ _ _
  exact zL_pm _ _ _ [(5, _), (4, _), (0, _), (1, _), (2, _), (3, _)] _ _ _ _ _ ⟨(List.forall_mem_cons.mpr ⟨List.mem_cons_self, (List.forall_mem_cons.mpr ⟨(List.mem_cons_of_mem _ List.mem_cons_self), (List.forall_mem_cons.mpr ⟨(List.mem_cons_of_mem _ (List.mem_cons_of_mem _ List.mem_cons_self)), (List.forall_mem_cons.mpr ⟨(List.mem_cons_of_mem _ (List.mem_cons_of_mem _ (List.mem_cons_of_mem _ List.mem_cons_self))), (List.forall_mem_cons.mpr ⟨(List.mem_cons_of_mem _ (List.mem_cons_of_mem _ (List.mem_cons_of_mem _ (List.mem_cons_of_mem _ List.mem_cons_self)))), (List.forall_mem_cons.mpr ⟨(List.mem_cons_of_mem _ (List.mem_cons_of_mem _ (List.mem_cons_of_mem _ (List.mem_cons_of_mem _ (List.mem_cons_of_mem _ List.mem_cons_self))))), (fun _ h => absurd h List.not_mem_nil)⟩)⟩)⟩)⟩)⟩)⟩), show ([5, 4, 0, 1, 2, 3] : List Nat).Nodup by decide⟩ (C_bal_loop hS hC hi _ 0 0 _ (by omega) rfl)
set_option maxRecDepth 20000 in
theorem C_inF_loop {h : List zC} {A C : Nat} {rep : Int32} (hS : Stc h) (hC : gF h A 1 = some (.ref C)) : ∀ (n k : Nat) (r : Int32) (u : Nat), k ≤ 3 → hcF (fun i => bCs (fun f => iv h (173 + 3 * f) i) (fun f => sideC rep (iv h (171 + 3 * f) 3) (iv h A 0) (lkC h f C)) 4) k = r → zL zrx zi n 52 5 [(4, .int (Int32.ofNat k)), (3, .int r), (0, .ref 169), (1, .ref A), (2, .int rep)] [] h u (fun o h2 _ => h2 = h ∧ o = .inl (some (.int (hcF (fun i => bCs (fun f => iv h (173 + 3 * f) i) (fun f => sideC rep (iv h (171 + 3 * f) 3) (iv h A 0) (lkC h f C)) 4) 3))))
  | 0, _, _, _ => fun _ _ => trivial
  | n + 1, k, r, u => fun hk hD => by
    have kk := (toNat_ofNat (m := k) (by omega))
    have z3 : (3 : Int32).toInt = 3 := rfl
    refine zLp vr_52_5 rfl rfl ?_
    refine zSp0 (pc' := 8) (st' := .int (3) :: _) vr_52_7 rfl rfl ?_
    refine zSb2 (f := fun x y => decide (y ≤ x)) (off := 23) (t := 31) vr_52_8 rfl rfl rfl (fun x2521 y2521 e2521 f2521 q2521 => ?_) (fun x2521 y2521 e2521 f2521 q2521 => ?_)
    · cases e2521
      cases f2521
      have c2521 := of_decide_eq_true q2521
      refine zSiload (m := 1) (k := 3) vr_52_31 rfl rfl rfl (fun x2522 e2522 => ?_)
      cases e2522
      refine zLiret vr_52_32 rfl (fun x2523 e2523 => ?_)
      cases e2523
      have e : k = 3 := by
        have y := c2521
        rw [i32_le, kk.2, z3] at y
        omega
      subst e
      rw [hD]
      exact ⟨rfl, rfl⟩
    · cases e2521
      cases f2521
      have c2521 := ndc q2521
      have k3 : k < 3 := by
        have y := c2521
        rw [i32_le, kk.2, z3] at y
        omega
      refine zSaload (m := 1) (k := 0) vr_52_11 rfl rfl rfl ?_
      refine zSiload (m := 2) (k := 4) vr_52_12 rfl rfl rfl (fun x2525 e2525 => ?_)
      cases e2525
      refine zSaload (m := 1) (k := 1) vr_52_14 rfl rfl rfl ?_
      refine zSiload (m := 1) (k := 2) vr_52_15 rfl rfl rfl (fun x2527 e2527 => ?_)
      cases e2527
      refine zScall vr_52_16 rfl rfl rfl (fun m2528 _ => C_bal _ _ _ _ hS hC kk.1) (fun v2528 h2528 u2528 q2528 => ?_) (fun E2528 h2528 u2528 q2528 => ?_)
      · obtain ⟨eh2528, z2528⟩ := q2528
        replace eh2528 := eh2528.symm
        subst eh2528
        cases z2528
        show zL zrx zi _ 52 19 [(4, _), (3, _), (0, _), (1, _), (2, _)] [_] _ _ _
        refine zSb1 (f := fun x => decide (x ≤ 0)) (off := 6) (t := 25) vr_52_19 rfl rfl rfl (fun x2529 e2529 q2529 => ?_) (fun x2529 e2529 q2529 => ?_)
        · cases e2529
          have c2529 := of_decide_eq_true q2529
          refine zSiinc vr_52_25 rfl rfl (fun x2530 e2530 => ?_)
          cases e2530
          show zL zrx zi _ 52 28 [(4, _), (3, _), (0, _), (1, _), (2, _)] [] _ _ _
          refine zSgo (t := 5) vr_52_28 rfl rfl ?_
          rw [ofNat_succ]
          refine zL_pm _ _ _ [(4, _), (3, _), (0, _), (1, _), (2, _)] _ _ _ _ _ ⟨(List.forall_mem_cons.mpr ⟨List.mem_cons_self, (List.forall_mem_cons.mpr ⟨(List.mem_cons_of_mem _ List.mem_cons_self), (List.forall_mem_cons.mpr ⟨(List.mem_cons_of_mem _ (List.mem_cons_of_mem _ List.mem_cons_self)), (List.forall_mem_cons.mpr ⟨(List.mem_cons_of_mem _ (List.mem_cons_of_mem _ (List.mem_cons_of_mem _ List.mem_cons_self))), (List.forall_mem_cons.mpr ⟨(List.mem_cons_of_mem _ (List.mem_cons_of_mem _ (List.mem_cons_of_mem _ (List.mem_cons_of_mem _ List.mem_cons_self)))), (fun _ h => absurd h List.not_mem_nil)⟩)⟩)⟩)⟩)⟩), show ([4, 3, 0, 1, 2] : List Nat).Nodup by decide⟩ (C_inF_loop hS hC n (k + 1) _ _ (by omega) ?_)
          first
            | exact (hcF_n (B := (fun i => bCs (fun f => iv h (173 + 3 * f) i) (fun f => sideC rep (iv h (171 + 3 * f) 3) (iv h A 0) (lkC h f C)) 4)) (k := k) (Int32.not_lt.mpr c2529)).trans hD
            | exact (hcF_y (B := (fun i => bCs (fun f => iv h (173 + 3 * f) i) (fun f => sideC rep (iv h (171 + 3 * f) 3) (iv h A 0) (lkC h f C)) 4)) (k := k) (Int32.not_le.mp c2529)).trans (by rw [hD]; rfl)
        · cases e2529
          have c2529 := ndc q2529
          refine zSiinc vr_52_22 rfl rfl (fun x2532 e2532 => ?_)
          cases e2532
          show zL zrx zi _ 52 25 [(3, _), (4, _), (0, _), (1, _), (2, _)] [] _ _ _
          refine zSiinc vr_52_25 rfl rfl (fun x2533 e2533 => ?_)
          cases e2533
          show zL zrx zi _ 52 28 [(4, _), (3, _), (0, _), (1, _), (2, _)] [] _ _ _
          refine zSgo (t := 5) vr_52_28 rfl rfl ?_
          rw [ofNat_succ]
          refine zL_pm _ _ _ [(4, _), (3, _), (0, _), (1, _), (2, _)] _ _ _ _ _ ⟨(List.forall_mem_cons.mpr ⟨List.mem_cons_self, (List.forall_mem_cons.mpr ⟨(List.mem_cons_of_mem _ List.mem_cons_self), (List.forall_mem_cons.mpr ⟨(List.mem_cons_of_mem _ (List.mem_cons_of_mem _ List.mem_cons_self)), (List.forall_mem_cons.mpr ⟨(List.mem_cons_of_mem _ (List.mem_cons_of_mem _ (List.mem_cons_of_mem _ List.mem_cons_self))), (List.forall_mem_cons.mpr ⟨(List.mem_cons_of_mem _ (List.mem_cons_of_mem _ (List.mem_cons_of_mem _ (List.mem_cons_of_mem _ List.mem_cons_self)))), (fun _ h => absurd h List.not_mem_nil)⟩)⟩)⟩)⟩)⟩), show ([4, 3, 0, 1, 2] : List Nat).Nodup by decide⟩ (C_inF_loop hS hC n (k + 1) _ _ (by omega) ?_)
          first
            | exact (hcF_n (B := (fun i => bCs (fun f => iv h (173 + 3 * f) i) (fun f => sideC rep (iv h (171 + 3 * f) 3) (iv h A 0) (lkC h f C)) 4)) (k := k) (Int32.not_lt.mpr c2529)).trans hD
            | exact (hcF_y (B := (fun i => bCs (fun f => iv h (173 + 3 * f) i) (fun f => sideC rep (iv h (171 + 3 * f) 3) (iv h A 0) (lkC h f C)) 4)) (k := k) (Int32.not_le.mp c2529)).trans (by rw [hD]; rfl)
      · obtain ⟨-, z⟩ := q2528
        cases z
theorem C_inF (n : Nat) (rep : Int32) (h : List zC) (u : Nat) {A C : Nat} (hS : Stc h) (hC : gF h A 1 = some (.ref C)) : zL zrx zi n 52 0 [(0, .ref 169), (1, .ref A), (2, .int rep)] [] h u (fun o h2 _ => h2 = h ∧ o = .inl (some (.int (hcF (fun i => bCs (fun f => iv h (173 + 3 * f) i) (fun f => sideC rep (iv h (171 + 3 * f) 3) (iv h A 0) (lkC h f C)) 4) 3)))) := by
  refine zSp0 (pc' := 1) (st' := .int (0) :: _) vr_52_0 rfl rfl ?_
  refine zSistore (m := 1) (k := 3) vr_52_1 rfl rfl (fun x2536 e2536 => ?_)
  cases e2536
  show zL zrx zi _ 52 2 [(3, _), (0, _), (1, _), (2, _)] [] _ _ _
  refine zSp0 (pc' := 3) (st' := .int (0) :: _) vr_52_2 rfl rfl ?_
  refine zSistore (m := 2) (k := 4) vr_52_3 rfl rfl (fun x2538 e2538 => ?_)
  cases e2538
  show zL zrx zi _ 52 5 [(4, _), (3, _), (0, _), (1, _), (2, _)] [] _ _ _
  exact zL_pm _ _ _ [(4, _), (3, _), (0, _), (1, _), (2, _)] _ _ _ _ _ ⟨(List.forall_mem_cons.mpr ⟨List.mem_cons_self, (List.forall_mem_cons.mpr ⟨(List.mem_cons_of_mem _ List.mem_cons_self), (List.forall_mem_cons.mpr ⟨(List.mem_cons_of_mem _ (List.mem_cons_of_mem _ List.mem_cons_self)), (List.forall_mem_cons.mpr ⟨(List.mem_cons_of_mem _ (List.mem_cons_of_mem _ (List.mem_cons_of_mem _ List.mem_cons_self))), (List.forall_mem_cons.mpr ⟨(List.mem_cons_of_mem _ (List.mem_cons_of_mem _ (List.mem_cons_of_mem _ (List.mem_cons_of_mem _ List.mem_cons_self)))), (fun _ h => absurd h List.not_mem_nil)⟩)⟩)⟩)⟩)⟩), show ([4, 3, 0, 1, 2] : List Nat).Nodup by decide⟩ (C_inF_loop hS hC _ 0 0 _ (by omega) rfl)
theorem C_mlk (n : Nat) (fv x : Int32) (h : List zC) (u : Nat) {i : Nat} (hi : fv.toNatClampNeg = i) (i4 : i < 4) {el A : Nat} {cnt : Int32} (hS : Stc h) (hL : gF h 225 1 = some (.ref el)) (hs : gF h 225 2 = some (.int cnt)) (hq : gF h el x.toNatClampNeg = some (.ref A)) : zL zrx zi n 167 0 [(0, .ref 213), (1, .int fv), (2, .int x)] [] h u (fun o h2 _ => h2 = h ∧ o = .inl (some (.int (lkM h i A)))) := by
  refine zSaload (m := 1) (k := 0) vr_167_0 rfl rfl rfl ?_
  refine zLget vr_167_1 rfl (fun p2540 w2540 e2540 t2540 g2540 => ?_)
  cases e2540
  first | (rw [(st_213_9 hS)] at g2540; cases g2540) | (rw [(st_213_12 hS)] at g2540; cases g2540) | (rw [hM] at g2540; cases g2540) | (rw [(st_213_13 hS)] at g2540; cases g2540) | skip
  refine zSiload (m := 1) (k := 2) vr_167_4 rfl rfl rfl (fun x2541 e2541 => ?_)
  cases e2541
  refine zScall vr_167_5 rfl rfl rfl (fun m2542 _ => C_get _ _ _ _ _ hL hs) (fun v2542 h2542 u2542 q2542 => ?_) (fun E2542 h2542 u2542 q2542 => ?_)
  · obtain ⟨eh2542, y2542, w2542, z2542, k2542⟩ := q2542
    replace eh2542 := eh2542.symm
    subst eh2542
    cases z2542
    show zL zrx zi _ 167 10 [(0, _), (1, _), (2, _)] [_] _ _ _
    refine zLcst vr_167_10 rfl (fun p2543 e2543 => ?_)
    cases e2543
    have e1 := k2542
    rw [hq] at e1
    cases e1
    have hM : gF h 230 fv.toNatClampNeg = some (.ref (231 + i)) := by
      rw [hi]
      exact st_mr hS i4
    refine zSastore (m := 1) (k := 3) vr_167_13 rfl rfl ?_
    show zL zrx zi _ 167 14 [(3, _), (0, _), (1, _), (2, _)] [] _ _ _
    refine zSaload (m := 1) (k := 0) vr_167_14 rfl rfl rfl ?_
    refine zLget vr_167_15 rfl (fun p2546 w2546 e2546 t2546 g2546 => ?_)
    cases e2546
    first | (rw [(st_213_9 hS)] at g2546; cases g2546) | (rw [(st_213_12 hS)] at g2546; cases g2546) | (rw [hM] at g2546; cases g2546) | (rw [(st_213_13 hS)] at g2546; cases g2546) | skip
    refine zSiload (m := 1) (k := 1) vr_167_18 rfl rfl rfl (fun x2547 e2547 => ?_)
    cases e2547
    refine zLaald vr_167_19 rfl (fun p2548 x2548 w2548 e2548 f2548 c2548 t2548 g2548 => ?_)
    cases e2548
    cases f2548
    first | (rw [(st_213_9 hS)] at g2548; cases g2548) | (rw [(st_213_12 hS)] at g2548; cases g2548) | (rw [hM] at g2548; cases g2548) | (rw [(st_213_13 hS)] at g2548; cases g2548) | skip
    refine zSaload (m := 1) (k := 3) vr_167_20 rfl rfl rfl ?_
    refine zLget vr_167_21 rfl (fun p2550 w2550 e2550 t2550 g2550 => ?_)
    cases e2550
    first | (rw [(st_213_9 hS)] at g2550; cases g2550) | (rw [(st_213_12 hS)] at g2550; cases g2550) | (rw [hM] at g2550; cases g2550) | (rw [(st_213_13 hS)] at g2550; cases g2550) | skip
    refine zLiald vr_167_24 rfl (fun p2551 x2551 w2551 e2551 f2551 c2551 t2551 g2551 => ?_)
    cases e2551
    cases f2551
    first | (rw [(st_213_9 hS)] at g2551; cases g2551) | (rw [(st_213_12 hS)] at g2551; cases g2551) | (rw [hM] at g2551; cases g2551) | (rw [(st_213_13 hS)] at g2551; cases g2551) | skip
    refine zSaload (m := 1) (k := 3) vr_167_25 rfl rfl rfl ?_
    refine zLget vr_167_26 rfl (fun p2553 w2553 e2553 t2553 g2553 => ?_)
    cases e2553
    first | (rw [(st_213_9 hS)] at g2553; cases g2553) | (rw [(st_213_12 hS)] at g2553; cases g2553) | (rw [hM] at g2553; cases g2553) | (rw [(st_213_13 hS)] at g2553; cases g2553) | skip
    refine zSb1 (f := fun x => decide (x < 0)) (off := 23) (t := 52) vr_167_29 rfl rfl rfl (fun x2554 e2554 q2554 => ?_) (fun x2554 e2554 q2554 => ?_)
    · cases e2554
      have c2554 := of_decide_eq_true q2554
      refine zSp0 (pc' := 53) (st' := .int (0) :: _) vr_167_52 rfl rfl ?_
      refine zS2 (f := fun x y => .int (x + y)) vr_167_53 rfl rfl (fun x2556 y2556 e2556 f2556 => ?_)
      cases e2556
      cases f2556
      refine zLiret vr_167_54 rfl (fun x2557 e2557 => ?_)
      cases e2557
      refine ⟨rfl, ?_⟩
      unfold lkM lk
      rw [iv_of g2550, iv_of g2551, iv_of g2553]
      first
        | rw [if_pos c2554, Int32.add_zero]
        | (have e := (iv_of g2553).symm.trans (iv_of g2512)
           rw [iv_of g37, if_neg c2554, e])
    · cases e2554
      have c2554 := ndc q2554
      refine zSaload (m := 1) (k := 0) vr_167_32 rfl rfl rfl ?_
      refine zLget vr_167_33 rfl (fun p2559 w2559 e2559 t2559 g2559 => ?_)
      cases e2559
      first | (rw [(st_213_9 hS)] at g2559; cases g2559) | (rw [(st_213_12 hS)] at g2559; cases g2559) | (rw [hM] at g2559; cases g2559) | (rw [(st_213_13 hS)] at g2559; cases g2559) | skip
      refine zSiload (m := 1) (k := 1) vr_167_36 rfl rfl rfl (fun x2560 e2560 => ?_)
      cases e2560
      refine zLiald vr_167_37 rfl (fun p2561 x2561 w2561 e2561 f2561 c2561 t2561 g2561 => ?_)
      cases e2561
      cases f2561
      first | (rw [(st_213_9 hS)] at g2561; cases g2561) | (rw [(st_213_12 hS)] at g2561; cases g2561) | (rw [hM] at g2561; cases g2561) | (rw [(st_213_13 hS)] at g2561; cases g2561) | skip
      have g37 := g2561
      rw [hi] at g37
      refine zSaload (m := 1) (k := 3) vr_167_38 rfl rfl rfl ?_
      refine zLget vr_167_39 rfl (fun p2563 w2563 e2563 t2563 g2563 => ?_)
      cases e2563
      first | (rw [(st_213_9 hS)] at g2563; cases g2563) | (rw [(st_213_12 hS)] at g2563; cases g2563) | (rw [hM] at g2563; cases g2563) | (rw [(st_213_13 hS)] at g2563; cases g2563) | skip
      refine zSp0 (pc' := 44) (st' := .int (50) :: _) vr_167_42 rfl rfl ?_
      refine zS2 (f := fun x y => .int (x - y)) vr_167_44 rfl rfl (fun x2565 y2565 e2565 f2565 => ?_)
      cases e2565
      cases f2565
      refine zS2 (f := fun x y => .int (x * y)) vr_167_45 rfl rfl (fun x2566 y2566 e2566 f2566 => ?_)
      cases e2566
      cases f2566
      refine zSp0 (pc' := 48) (st' := .int (25) :: _) vr_167_46 rfl rfl ?_
      refine zSdiv vr_167_48 rfl (fun x2568 y2568 e2568 f2568 g2568 => ?_)
      cases e2568
      cases f2568
      refine zSgo (t := 53) vr_167_49 rfl rfl ?_
      refine zS2 (f := fun x y => .int (x + y)) vr_167_53 rfl rfl (fun x2570 y2570 e2570 f2570 => ?_)
      cases e2570
      cases f2570
      refine zLiret vr_167_54 rfl (fun x2571 e2571 => ?_)
      cases e2571
      refine ⟨rfl, ?_⟩
      unfold lkM lk
      rw [iv_of g2550, iv_of g2551, iv_of g2553]
      first
        | rw [if_pos c2554, Int32.add_zero]
        | (have e := (iv_of g2553).symm.trans (iv_of g2563)
           rw [iv_of g37, if_neg c2554, e])
  · obtain ⟨-, -, w, z, -⟩ := q2542
    cases z
set_option maxRecDepth 20000 in
theorem C_mar_loop {h : List zC} {x hv rep : Int32} {i el A : Nat} {cnt : Int32} (hi : hv.toNatClampNeg = i) (i3 : i < 3) (hS : Stc h) (hL : gF h 225 1 = some (.ref el)) (hs : gF h 225 2 = some (.int cnt)) (hq : gF h el x.toNatClampNeg = some (.ref A)) : ∀ (n k : Nat) (r : Int32) (w w2 : Value) (u : Nat), k ≤ 4 → bMs (fun f => iv h (227 + i) f) (fun f => byM rep (iv h 236 f) x (lkM h f A)) k = r → zL zrx zi n 168 6 [(5, .int (Int32.ofNat k)), (4, .int r), (0, .ref 213), (1, .int x), (2, .int hv), (3, .int rep), (6, w), (7, w2)] [] h u (fun o h2 _ => h2 = h ∧ o = .inl (some (.int (bMs (fun f => iv h (227 + i) f) (fun f => byM rep (iv h 236 f) x (lkM h f A)) 4))))
  | 0, _, _, _, _, _ => fun _ _ => trivial
  | n + 1, k, r, w, w2, u => fun hk hD => by
    have kk := (toNat_ofNat (m := k) (by omega))
    have z4 : (4 : Int32).toInt = 4 := rfl
    refine zLp vr_168_6 rfl rfl ?_
    refine zSp0 (pc' := 9) (st' := .int (4) :: _) vr_168_8 rfl rfl ?_
    refine zSb2 (f := fun x y => decide (y ≤ x)) (off := 88) (t := 97) vr_168_9 rfl rfl rfl (fun x2573 y2573 e2573 f2573 q2573 => ?_) (fun x2573 y2573 e2573 f2573 q2573 => ?_)
    · cases e2573
      cases f2573
      have c2573 := of_decide_eq_true q2573
      refine zSiload (m := 2) (k := 4) vr_168_97 rfl rfl rfl (fun x2574 e2574 => ?_)
      cases e2574
      refine zLiret vr_168_99 rfl (fun x2575 e2575 => ?_)
      cases e2575
      have e : k = 4 := by
        have y := c2573
        rw [i32_le, kk.2, z4] at y
        omega
      subst e
      rw [hD]
      exact ⟨rfl, rfl⟩
    · cases e2573
      cases f2573
      have c2573 := ndc q2573
      have k4 : k < 4 := by
        have y := c2573
        rw [i32_le, kk.2, z4] at y
        omega
      have hH : gF h 226 hv.toNatClampNeg = some (.ref (227 + i)) := by
        rw [hi]
        exact st_hs hS i3
      refine zSaload (m := 1) (k := 0) vr_168_12 rfl rfl rfl ?_
      refine zSiload (m := 2) (k := 5) vr_168_13 rfl rfl rfl (fun x2577 e2577 => ?_)
      cases e2577
      refine zSiload (m := 1) (k := 1) vr_168_15 rfl rfl rfl (fun x2578 e2578 => ?_)
      cases e2578
      refine zScall vr_168_16 rfl rfl rfl (fun m2579 _ => C_mlk _ _ _ _ _ kk.1 k4 hS hL hs hq) (fun v2579 h2579 u2579 q2579 => ?_) (fun E2579 h2579 u2579 q2579 => ?_)
      · obtain ⟨eh2579, z2579⟩ := q2579
        replace eh2579 := eh2579.symm
        subst eh2579
        cases z2579
        show zL zrx zi _ 168 19 [(5, _), (4, _), (0, _), (1, _), (2, _), (3, _), (6, _), (7, _)] [_] _ _ _
        refine zSistore (m := 2) (k := 6) vr_168_19 rfl rfl (fun x2580 e2580 => ?_)
        cases e2580
        show zL zrx zi _ 168 21 [(6, _), (5, _), (4, _), (0, _), (1, _), (2, _), (3, _), (7, _)] [] _ _ _
        refine zSiload (m := 1) (k := 3) vr_168_21 rfl rfl rfl (fun x2581 e2581 => ?_)
        cases e2581
        refine zSb1 (f := fun x => decide (x = 0)) (off := 9) (t := 31) vr_168_22 rfl rfl rfl (fun x2582 e2582 q2582 => ?_) (fun x2582 e2582 q2582 => ?_)
        · cases e2582
          have c2582 := of_decide_eq_true q2582
          refine zSaload (m := 1) (k := 0) vr_168_31 rfl rfl rfl ?_
          refine zLget vr_168_32 rfl (fun p2584 w2584 e2584 t2584 g2584 => ?_)
          cases e2584
          first | (rw [(st_213_11 hS)] at g2584; cases g2584) | (rw [(st_213_14 hS)] at g2584; cases g2584) | (rw [hH] at g2584; cases g2584) | skip
          refine zSiload (m := 2) (k := 5) vr_168_35 rfl rfl rfl (fun x2585 e2585 => ?_)
          cases e2585
          refine zLiald vr_168_37 rfl (fun p2586 x2586 w2586 e2586 f2586 c2586 t2586 g2586 => ?_)
          cases e2586
          cases f2586
          first | (rw [(st_213_11 hS)] at g2586; cases g2586) | (rw [(st_213_14 hS)] at g2586; cases g2586) | (rw [hH] at g2586; cases g2586) | skip
          have g37 := g2586
          rw [kk.1] at g37
          refine zSiload (m := 1) (k := 1) vr_168_38 rfl rfl rfl (fun x2587 e2587 => ?_)
          cases e2587
          refine zSb2 (f := fun x y => decide (¬ x = y)) (off := 7) (t := 46) vr_168_39 rfl rfl rfl (fun x2588 y2588 e2588 f2588 q2588 => ?_) (fun x2588 y2588 e2588 f2588 q2588 => ?_)
          · cases e2588
            cases f2588
            have c2588 := of_decide_eq_true q2588
            refine zSiload (m := 2) (k := 6) vr_168_46 rfl rfl rfl (fun x2589 e2589 => ?_)
            cases e2589
            refine zSistore (m := 2) (k := 7) vr_168_48 rfl rfl (fun x2590 e2590 => ?_)
            cases e2590
            show zL zrx zi _ 168 50 [(7, _), (6, _), (5, _), (4, _), (0, _), (1, _), (2, _), (3, _)] [] _ _ _
            refine zSiload (m := 2) (k := 4) vr_168_50 rfl rfl rfl (fun x2591 e2591 => ?_)
            cases e2591
            refine zSiload (m := 2) (k := 7) vr_168_52 rfl rfl rfl (fun x2592 e2592 => ?_)
            cases e2592
            refine zSb1 (f := fun x => decide (x ≤ 0)) (off := 15) (t := 69) vr_168_54 rfl rfl rfl (fun x2593 e2593 q2593 => ?_) (fun x2593 e2593 q2593 => ?_)
            · cases e2593
              have c2593 := of_decide_eq_true q2593
              refine zSiload (m := 2) (k := 7) vr_168_69 rfl rfl rfl (fun x2594 e2594 => ?_)
              cases e2594
              refine zSb1 (f := fun x => decide (0 ≤ x)) (off := 16) (t := 87) vr_168_71 rfl rfl rfl (fun x2595 e2595 q2595 => ?_) (fun x2595 e2595 q2595 => ?_)
              · cases e2595
                have c2595 := of_decide_eq_true q2595
                refine zSp0 (pc' := 88) (st' := .int (0) :: _) vr_168_87 rfl rfl ?_
                refine zS2 (f := fun x y => .int (x + y)) vr_168_88 rfl rfl (fun x2597 y2597 e2597 f2597 => ?_)
                cases e2597
                cases f2597
                refine zSistore (m := 2) (k := 4) vr_168_89 rfl rfl (fun x2598 e2598 => ?_)
                cases e2598
                show zL zrx zi _ 168 91 [(4, _), (7, _), (6, _), (5, _), (0, _), (1, _), (2, _), (3, _)] [] _ _ _
                refine zSiinc vr_168_91 rfl rfl (fun x2599 e2599 => ?_)
                cases e2599
                show zL zrx zi _ 168 94 [(5, _), (4, _), (7, _), (6, _), (0, _), (1, _), (2, _), (3, _)] [] _ _ _
                refine zSgo (t := 6) vr_168_94 rfl rfl ?_
                rw [ofNat_succ]
                refine zL_pm _ _ _ [(5, _), (4, _), (0, _), (1, _), (2, _), (3, _), (6, _), (7, _)] _ _ _ _ _ ⟨(List.forall_mem_cons.mpr ⟨List.mem_cons_self, (List.forall_mem_cons.mpr ⟨(List.mem_cons_of_mem _ List.mem_cons_self), (List.forall_mem_cons.mpr ⟨(List.mem_cons_of_mem _ (List.mem_cons_of_mem _ (List.mem_cons_of_mem _ (List.mem_cons_of_mem _ (List.mem_cons_of_mem _ (List.mem_cons_of_mem _ (List.mem_cons_of_mem _ List.mem_cons_self))))))), (List.forall_mem_cons.mpr ⟨(List.mem_cons_of_mem _ (List.mem_cons_of_mem _ (List.mem_cons_of_mem _ (List.mem_cons_of_mem _ (List.mem_cons_of_mem _ (List.mem_cons_of_mem _ List.mem_cons_self)))))), (List.forall_mem_cons.mpr ⟨(List.mem_cons_of_mem _ (List.mem_cons_of_mem _ List.mem_cons_self)), (List.forall_mem_cons.mpr ⟨(List.mem_cons_of_mem _ (List.mem_cons_of_mem _ (List.mem_cons_of_mem _ List.mem_cons_self))), (List.forall_mem_cons.mpr ⟨(List.mem_cons_of_mem _ (List.mem_cons_of_mem _ (List.mem_cons_of_mem _ (List.mem_cons_of_mem _ List.mem_cons_self)))), (List.forall_mem_cons.mpr ⟨(List.mem_cons_of_mem _ (List.mem_cons_of_mem _ (List.mem_cons_of_mem _ (List.mem_cons_of_mem _ (List.mem_cons_of_mem _ List.mem_cons_self))))), (fun _ h => absurd h List.not_mem_nil)⟩)⟩)⟩)⟩)⟩)⟩)⟩)⟩), show ([5, 4, 0, 1, 2, 3, 6, 7] : List Nat).Nodup by decide⟩ (C_mar_loop hi i3 hS hL hs hq n (k + 1) _ _ _ _ (by omega) ?_)
                first
                  | (have hb : byM rep (iv h 236 k) x (lkM h k A) = _ := if_neg c2582
                     show bMs _ _ k + sgn (byM rep (iv h 236 k) x (lkM h k A)) (iv h (227 + i) k) = _
                     rw [hD, hb]
                     congr 1
                     unfold sgn
                     rw [iv_of g65]
                     exact if_pos (Int32.not_le.mp c2593))
                  | (have hb : byM rep (iv h 236 k) x (lkM h k A) = _ := if_neg c2582
                     show bMs _ _ k + sgn (byM rep (iv h 236 k) x (lkM h k A)) (iv h (227 + i) k) = _
                     rw [hD, hb]
                     congr 1
                     unfold sgn
                     rw [iv_of g82]
                     exact (if_neg (Int32.not_lt.mpr c2593)).trans (if_pos (Int32.not_le.mp c2595)))
                  | (have hb : byM rep (iv h 236 k) x (lkM h k A) = _ := if_neg c2582
                     show bMs _ _ k + sgn (byM rep (iv h 236 k) x (lkM h k A)) (iv h (227 + i) k) = _
                     rw [hD, hb]
                     congr 1
                     unfold sgn
                     exact (if_neg (Int32.not_lt.mpr c2593)).trans (if_neg (Int32.not_lt.mpr c2595)))
                  | (have hb : byM rep (iv h 236 k) x (lkM h k A) = _ := (if_pos c2582).trans (if_neg (by rw [iv_of g37]; exact c2588))
                     show bMs _ _ k + sgn (byM rep (iv h 236 k) x (lkM h k A)) (iv h (227 + i) k) = _
                     rw [hD, hb]
                     congr 1
                     unfold sgn
                     rw [iv_of g65]
                     exact if_pos (Int32.not_le.mp c2593))
                  | (have hb : byM rep (iv h 236 k) x (lkM h k A) = _ := (if_pos c2582).trans (if_neg (by rw [iv_of g37]; exact c2588))
                     show bMs _ _ k + sgn (byM rep (iv h 236 k) x (lkM h k A)) (iv h (227 + i) k) = _
                     rw [hD, hb]
                     congr 1
                     unfold sgn
                     rw [iv_of g82]
                     exact (if_neg (Int32.not_lt.mpr c2593)).trans (if_pos (Int32.not_le.mp c2595)))
                  | (have hb : byM rep (iv h 236 k) x (lkM h k A) = _ := (if_pos c2582).trans (if_neg (by rw [iv_of g37]; exact c2588))
                     show bMs _ _ k + sgn (byM rep (iv h 236 k) x (lkM h k A)) (iv h (227 + i) k) = _
                     rw [hD, hb]
                     congr 1
                     unfold sgn
                     exact (if_neg (Int32.not_lt.mpr c2593)).trans (if_neg (Int32.not_lt.mpr c2595)))
                  | (have hb : byM rep (iv h 236 k) x (lkM h k A) = _ := (if_pos c2582).trans (if_pos (by rw [iv_of g37]; exact Decidable.not_not.mp c2588))
                     show bMs _ _ k + sgn (byM rep (iv h 236 k) x (lkM h k A)) (iv h (227 + i) k) = _
                     rw [hD, hb]
                     congr 1
                     unfold sgn
                     rw [iv_of g65]
                     exact if_pos (Int32.not_le.mp c2593))
                  | (have hb : byM rep (iv h 236 k) x (lkM h k A) = _ := (if_pos c2582).trans (if_pos (by rw [iv_of g37]; exact Decidable.not_not.mp c2588))
                     show bMs _ _ k + sgn (byM rep (iv h 236 k) x (lkM h k A)) (iv h (227 + i) k) = _
                     rw [hD, hb]
                     congr 1
                     unfold sgn
                     rw [iv_of g82]
                     exact (if_neg (Int32.not_lt.mpr c2593)).trans (if_pos (Int32.not_le.mp c2595)))
                  | (have hb : byM rep (iv h 236 k) x (lkM h k A) = _ := (if_pos c2582).trans (if_pos (by rw [iv_of g37]; exact Decidable.not_not.mp c2588))
                     show bMs _ _ k + sgn (byM rep (iv h 236 k) x (lkM h k A)) (iv h (227 + i) k) = _
                     rw [hD, hb]
                     congr 1
                     unfold sgn
                     exact (if_neg (Int32.not_lt.mpr c2593)).trans (if_neg (Int32.not_lt.mpr c2595)))
              · cases e2595
                have c2595 := ndc q2595
                refine zSaload (m := 1) (k := 0) vr_168_74 rfl rfl rfl ?_
                refine zLget vr_168_75 rfl (fun p2602 w2602 e2602 t2602 g2602 => ?_)
                cases e2602
                first | (rw [(st_213_11 hS)] at g2602; cases g2602) | (rw [(st_213_14 hS)] at g2602; cases g2602) | (rw [hH] at g2602; cases g2602) | skip
                refine zSiload (m := 1) (k := 2) vr_168_78 rfl rfl rfl (fun x2603 e2603 => ?_)
                cases e2603
                refine zLaald vr_168_79 rfl (fun p2604 x2604 w2604 e2604 f2604 c2604 t2604 g2604 => ?_)
                cases e2604
                cases f2604
                first | (rw [(st_213_11 hS)] at g2604; cases g2604) | (rw [(st_213_14 hS)] at g2604; cases g2604) | (rw [hH] at g2604; cases g2604) | skip
                refine zSiload (m := 2) (k := 5) vr_168_80 rfl rfl rfl (fun x2605 e2605 => ?_)
                cases e2605
                refine zLiald vr_168_82 rfl (fun p2606 x2606 w2606 e2606 f2606 c2606 t2606 g2606 => ?_)
                cases e2606
                cases f2606
                first | (rw [(st_213_11 hS)] at g2606; cases g2606) | (rw [(st_213_14 hS)] at g2606; cases g2606) | (rw [hH] at g2606; cases g2606) | skip
                have g82 := g2606
                rw [kk.1] at g82
                refine zS1 (f := fun x => .int (-x)) vr_168_83 rfl rfl (fun x2607 e2607 => ?_)
                cases e2607
                refine zSgo (t := 88) vr_168_84 rfl rfl ?_
                refine zS2 (f := fun x y => .int (x + y)) vr_168_88 rfl rfl (fun x2609 y2609 e2609 f2609 => ?_)
                cases e2609
                cases f2609
                refine zSistore (m := 2) (k := 4) vr_168_89 rfl rfl (fun x2610 e2610 => ?_)
                cases e2610
                show zL zrx zi _ 168 91 [(4, _), (7, _), (6, _), (5, _), (0, _), (1, _), (2, _), (3, _)] [] _ _ _
                refine zSiinc vr_168_91 rfl rfl (fun x2611 e2611 => ?_)
                cases e2611
                show zL zrx zi _ 168 94 [(5, _), (4, _), (7, _), (6, _), (0, _), (1, _), (2, _), (3, _)] [] _ _ _
                refine zSgo (t := 6) vr_168_94 rfl rfl ?_
                rw [ofNat_succ]
                refine zL_pm _ _ _ [(5, _), (4, _), (0, _), (1, _), (2, _), (3, _), (6, _), (7, _)] _ _ _ _ _ ⟨(List.forall_mem_cons.mpr ⟨List.mem_cons_self, (List.forall_mem_cons.mpr ⟨(List.mem_cons_of_mem _ List.mem_cons_self), (List.forall_mem_cons.mpr ⟨(List.mem_cons_of_mem _ (List.mem_cons_of_mem _ (List.mem_cons_of_mem _ (List.mem_cons_of_mem _ (List.mem_cons_of_mem _ (List.mem_cons_of_mem _ (List.mem_cons_of_mem _ List.mem_cons_self))))))), (List.forall_mem_cons.mpr ⟨(List.mem_cons_of_mem _ (List.mem_cons_of_mem _ (List.mem_cons_of_mem _ (List.mem_cons_of_mem _ (List.mem_cons_of_mem _ (List.mem_cons_of_mem _ List.mem_cons_self)))))), (List.forall_mem_cons.mpr ⟨(List.mem_cons_of_mem _ (List.mem_cons_of_mem _ List.mem_cons_self)), (List.forall_mem_cons.mpr ⟨(List.mem_cons_of_mem _ (List.mem_cons_of_mem _ (List.mem_cons_of_mem _ List.mem_cons_self))), (List.forall_mem_cons.mpr ⟨(List.mem_cons_of_mem _ (List.mem_cons_of_mem _ (List.mem_cons_of_mem _ (List.mem_cons_of_mem _ List.mem_cons_self)))), (List.forall_mem_cons.mpr ⟨(List.mem_cons_of_mem _ (List.mem_cons_of_mem _ (List.mem_cons_of_mem _ (List.mem_cons_of_mem _ (List.mem_cons_of_mem _ List.mem_cons_self))))), (fun _ h => absurd h List.not_mem_nil)⟩)⟩)⟩)⟩)⟩)⟩)⟩)⟩), show ([5, 4, 0, 1, 2, 3, 6, 7] : List Nat).Nodup by decide⟩ (C_mar_loop hi i3 hS hL hs hq n (k + 1) _ _ _ _ (by omega) ?_)
                first
                  | (have hb : byM rep (iv h 236 k) x (lkM h k A) = _ := if_neg c2582
                     show bMs _ _ k + sgn (byM rep (iv h 236 k) x (lkM h k A)) (iv h (227 + i) k) = _
                     rw [hD, hb]
                     congr 1
                     unfold sgn
                     rw [iv_of g65]
                     exact if_pos (Int32.not_le.mp c2593))
                  | (have hb : byM rep (iv h 236 k) x (lkM h k A) = _ := if_neg c2582
                     show bMs _ _ k + sgn (byM rep (iv h 236 k) x (lkM h k A)) (iv h (227 + i) k) = _
                     rw [hD, hb]
                     congr 1
                     unfold sgn
                     rw [iv_of g82]
                     exact (if_neg (Int32.not_lt.mpr c2593)).trans (if_pos (Int32.not_le.mp c2595)))
                  | (have hb : byM rep (iv h 236 k) x (lkM h k A) = _ := if_neg c2582
                     show bMs _ _ k + sgn (byM rep (iv h 236 k) x (lkM h k A)) (iv h (227 + i) k) = _
                     rw [hD, hb]
                     congr 1
                     unfold sgn
                     exact (if_neg (Int32.not_lt.mpr c2593)).trans (if_neg (Int32.not_lt.mpr c2595)))
                  | (have hb : byM rep (iv h 236 k) x (lkM h k A) = _ := (if_pos c2582).trans (if_neg (by rw [iv_of g37]; exact c2588))
                     show bMs _ _ k + sgn (byM rep (iv h 236 k) x (lkM h k A)) (iv h (227 + i) k) = _
                     rw [hD, hb]
                     congr 1
                     unfold sgn
                     rw [iv_of g65]
                     exact if_pos (Int32.not_le.mp c2593))
                  | (have hb : byM rep (iv h 236 k) x (lkM h k A) = _ := (if_pos c2582).trans (if_neg (by rw [iv_of g37]; exact c2588))
                     show bMs _ _ k + sgn (byM rep (iv h 236 k) x (lkM h k A)) (iv h (227 + i) k) = _
                     rw [hD, hb]
                     congr 1
                     unfold sgn
                     rw [iv_of g82]
                     exact (if_neg (Int32.not_lt.mpr c2593)).trans (if_pos (Int32.not_le.mp c2595)))
                  | (have hb : byM rep (iv h 236 k) x (lkM h k A) = _ := (if_pos c2582).trans (if_neg (by rw [iv_of g37]; exact c2588))
                     show bMs _ _ k + sgn (byM rep (iv h 236 k) x (lkM h k A)) (iv h (227 + i) k) = _
                     rw [hD, hb]
                     congr 1
                     unfold sgn
                     exact (if_neg (Int32.not_lt.mpr c2593)).trans (if_neg (Int32.not_lt.mpr c2595)))
                  | (have hb : byM rep (iv h 236 k) x (lkM h k A) = _ := (if_pos c2582).trans (if_pos (by rw [iv_of g37]; exact Decidable.not_not.mp c2588))
                     show bMs _ _ k + sgn (byM rep (iv h 236 k) x (lkM h k A)) (iv h (227 + i) k) = _
                     rw [hD, hb]
                     congr 1
                     unfold sgn
                     rw [iv_of g65]
                     exact if_pos (Int32.not_le.mp c2593))
                  | (have hb : byM rep (iv h 236 k) x (lkM h k A) = _ := (if_pos c2582).trans (if_pos (by rw [iv_of g37]; exact Decidable.not_not.mp c2588))
                     show bMs _ _ k + sgn (byM rep (iv h 236 k) x (lkM h k A)) (iv h (227 + i) k) = _
                     rw [hD, hb]
                     congr 1
                     unfold sgn
                     rw [iv_of g82]
                     exact (if_neg (Int32.not_lt.mpr c2593)).trans (if_pos (Int32.not_le.mp c2595)))
                  | (have hb : byM rep (iv h 236 k) x (lkM h k A) = _ := (if_pos c2582).trans (if_pos (by rw [iv_of g37]; exact Decidable.not_not.mp c2588))
                     show bMs _ _ k + sgn (byM rep (iv h 236 k) x (lkM h k A)) (iv h (227 + i) k) = _
                     rw [hD, hb]
                     congr 1
                     unfold sgn
                     exact (if_neg (Int32.not_lt.mpr c2593)).trans (if_neg (Int32.not_lt.mpr c2595)))
            · cases e2593
              have c2593 := ndc q2593
              refine zSaload (m := 1) (k := 0) vr_168_57 rfl rfl rfl ?_
              refine zLget vr_168_58 rfl (fun p2614 w2614 e2614 t2614 g2614 => ?_)
              cases e2614
              first | (rw [(st_213_11 hS)] at g2614; cases g2614) | (rw [(st_213_14 hS)] at g2614; cases g2614) | (rw [hH] at g2614; cases g2614) | skip
              refine zSiload (m := 1) (k := 2) vr_168_61 rfl rfl rfl (fun x2615 e2615 => ?_)
              cases e2615
              refine zLaald vr_168_62 rfl (fun p2616 x2616 w2616 e2616 f2616 c2616 t2616 g2616 => ?_)
              cases e2616
              cases f2616
              first | (rw [(st_213_11 hS)] at g2616; cases g2616) | (rw [(st_213_14 hS)] at g2616; cases g2616) | (rw [hH] at g2616; cases g2616) | skip
              refine zSiload (m := 2) (k := 5) vr_168_63 rfl rfl rfl (fun x2617 e2617 => ?_)
              cases e2617
              refine zLiald vr_168_65 rfl (fun p2618 x2618 w2618 e2618 f2618 c2618 t2618 g2618 => ?_)
              cases e2618
              cases f2618
              first | (rw [(st_213_11 hS)] at g2618; cases g2618) | (rw [(st_213_14 hS)] at g2618; cases g2618) | (rw [hH] at g2618; cases g2618) | skip
              have g65 := g2618
              rw [kk.1] at g65
              refine zSgo (t := 88) vr_168_66 rfl rfl ?_
              refine zS2 (f := fun x y => .int (x + y)) vr_168_88 rfl rfl (fun x2620 y2620 e2620 f2620 => ?_)
              cases e2620
              cases f2620
              refine zSistore (m := 2) (k := 4) vr_168_89 rfl rfl (fun x2621 e2621 => ?_)
              cases e2621
              show zL zrx zi _ 168 91 [(4, _), (7, _), (6, _), (5, _), (0, _), (1, _), (2, _), (3, _)] [] _ _ _
              refine zSiinc vr_168_91 rfl rfl (fun x2622 e2622 => ?_)
              cases e2622
              show zL zrx zi _ 168 94 [(5, _), (4, _), (7, _), (6, _), (0, _), (1, _), (2, _), (3, _)] [] _ _ _
              refine zSgo (t := 6) vr_168_94 rfl rfl ?_
              rw [ofNat_succ]
              refine zL_pm _ _ _ [(5, _), (4, _), (0, _), (1, _), (2, _), (3, _), (6, _), (7, _)] _ _ _ _ _ ⟨(List.forall_mem_cons.mpr ⟨List.mem_cons_self, (List.forall_mem_cons.mpr ⟨(List.mem_cons_of_mem _ List.mem_cons_self), (List.forall_mem_cons.mpr ⟨(List.mem_cons_of_mem _ (List.mem_cons_of_mem _ (List.mem_cons_of_mem _ (List.mem_cons_of_mem _ (List.mem_cons_of_mem _ (List.mem_cons_of_mem _ (List.mem_cons_of_mem _ List.mem_cons_self))))))), (List.forall_mem_cons.mpr ⟨(List.mem_cons_of_mem _ (List.mem_cons_of_mem _ (List.mem_cons_of_mem _ (List.mem_cons_of_mem _ (List.mem_cons_of_mem _ (List.mem_cons_of_mem _ List.mem_cons_self)))))), (List.forall_mem_cons.mpr ⟨(List.mem_cons_of_mem _ (List.mem_cons_of_mem _ List.mem_cons_self)), (List.forall_mem_cons.mpr ⟨(List.mem_cons_of_mem _ (List.mem_cons_of_mem _ (List.mem_cons_of_mem _ List.mem_cons_self))), (List.forall_mem_cons.mpr ⟨(List.mem_cons_of_mem _ (List.mem_cons_of_mem _ (List.mem_cons_of_mem _ (List.mem_cons_of_mem _ List.mem_cons_self)))), (List.forall_mem_cons.mpr ⟨(List.mem_cons_of_mem _ (List.mem_cons_of_mem _ (List.mem_cons_of_mem _ (List.mem_cons_of_mem _ (List.mem_cons_of_mem _ List.mem_cons_self))))), (fun _ h => absurd h List.not_mem_nil)⟩)⟩)⟩)⟩)⟩)⟩)⟩)⟩), show ([5, 4, 0, 1, 2, 3, 6, 7] : List Nat).Nodup by decide⟩ (C_mar_loop hi i3 hS hL hs hq n (k + 1) _ _ _ _ (by omega) ?_)
              first
                | (have hb : byM rep (iv h 236 k) x (lkM h k A) = _ := if_neg c2582
                   show bMs _ _ k + sgn (byM rep (iv h 236 k) x (lkM h k A)) (iv h (227 + i) k) = _
                   rw [hD, hb]
                   congr 1
                   unfold sgn
                   rw [iv_of g65]
                   exact if_pos (Int32.not_le.mp c2593))
                | (have hb : byM rep (iv h 236 k) x (lkM h k A) = _ := if_neg c2582
                   show bMs _ _ k + sgn (byM rep (iv h 236 k) x (lkM h k A)) (iv h (227 + i) k) = _
                   rw [hD, hb]
                   congr 1
                   unfold sgn
                   rw [iv_of g82]
                   exact (if_neg (Int32.not_lt.mpr c2593)).trans (if_pos (Int32.not_le.mp c2595)))
                | (have hb : byM rep (iv h 236 k) x (lkM h k A) = _ := if_neg c2582
                   show bMs _ _ k + sgn (byM rep (iv h 236 k) x (lkM h k A)) (iv h (227 + i) k) = _
                   rw [hD, hb]
                   congr 1
                   unfold sgn
                   exact (if_neg (Int32.not_lt.mpr c2593)).trans (if_neg (Int32.not_lt.mpr c2595)))
                | (have hb : byM rep (iv h 236 k) x (lkM h k A) = _ := (if_pos c2582).trans (if_neg (by rw [iv_of g37]; exact c2588))
                   show bMs _ _ k + sgn (byM rep (iv h 236 k) x (lkM h k A)) (iv h (227 + i) k) = _
                   rw [hD, hb]
                   congr 1
                   unfold sgn
                   rw [iv_of g65]
                   exact if_pos (Int32.not_le.mp c2593))
                | (have hb : byM rep (iv h 236 k) x (lkM h k A) = _ := (if_pos c2582).trans (if_neg (by rw [iv_of g37]; exact c2588))
                   show bMs _ _ k + sgn (byM rep (iv h 236 k) x (lkM h k A)) (iv h (227 + i) k) = _
                   rw [hD, hb]
                   congr 1
                   unfold sgn
                   rw [iv_of g82]
                   exact (if_neg (Int32.not_lt.mpr c2593)).trans (if_pos (Int32.not_le.mp c2595)))
                | (have hb : byM rep (iv h 236 k) x (lkM h k A) = _ := (if_pos c2582).trans (if_neg (by rw [iv_of g37]; exact c2588))
                   show bMs _ _ k + sgn (byM rep (iv h 236 k) x (lkM h k A)) (iv h (227 + i) k) = _
                   rw [hD, hb]
                   congr 1
                   unfold sgn
                   exact (if_neg (Int32.not_lt.mpr c2593)).trans (if_neg (Int32.not_lt.mpr c2595)))
                | (have hb : byM rep (iv h 236 k) x (lkM h k A) = _ := (if_pos c2582).trans (if_pos (by rw [iv_of g37]; exact Decidable.not_not.mp c2588))
                   show bMs _ _ k + sgn (byM rep (iv h 236 k) x (lkM h k A)) (iv h (227 + i) k) = _
                   rw [hD, hb]
                   congr 1
                   unfold sgn
                   rw [iv_of g65]
                   exact if_pos (Int32.not_le.mp c2593))
                | (have hb : byM rep (iv h 236 k) x (lkM h k A) = _ := (if_pos c2582).trans (if_pos (by rw [iv_of g37]; exact Decidable.not_not.mp c2588))
                   show bMs _ _ k + sgn (byM rep (iv h 236 k) x (lkM h k A)) (iv h (227 + i) k) = _
                   rw [hD, hb]
                   congr 1
                   unfold sgn
                   rw [iv_of g82]
                   exact (if_neg (Int32.not_lt.mpr c2593)).trans (if_pos (Int32.not_le.mp c2595)))
                | (have hb : byM rep (iv h 236 k) x (lkM h k A) = _ := (if_pos c2582).trans (if_pos (by rw [iv_of g37]; exact Decidable.not_not.mp c2588))
                   show bMs _ _ k + sgn (byM rep (iv h 236 k) x (lkM h k A)) (iv h (227 + i) k) = _
                   rw [hD, hb]
                   congr 1
                   unfold sgn
                   exact (if_neg (Int32.not_lt.mpr c2593)).trans (if_neg (Int32.not_lt.mpr c2595)))
          · cases e2588
            cases f2588
            have c2588 := ndc q2588
            refine zSp0 (pc' := 43) (st' := .int (1) :: _) vr_168_42 rfl rfl ?_
            refine zSgo (t := 48) vr_168_43 rfl rfl ?_
            refine zSistore (m := 2) (k := 7) vr_168_48 rfl rfl (fun x2626 e2626 => ?_)
            cases e2626
            show zL zrx zi _ 168 50 [(7, _), (6, _), (5, _), (4, _), (0, _), (1, _), (2, _), (3, _)] [] _ _ _
            refine zSiload (m := 2) (k := 4) vr_168_50 rfl rfl rfl (fun x2627 e2627 => ?_)
            cases e2627
            refine zSiload (m := 2) (k := 7) vr_168_52 rfl rfl rfl (fun x2628 e2628 => ?_)
            cases e2628
            refine zSb1 (f := fun x => decide (x ≤ 0)) (off := 15) (t := 69) vr_168_54 rfl rfl rfl (fun x2629 e2629 q2629 => ?_) (fun x2629 e2629 q2629 => ?_)
            · cases e2629
              have c2629 := of_decide_eq_true q2629
              refine zSiload (m := 2) (k := 7) vr_168_69 rfl rfl rfl (fun x2630 e2630 => ?_)
              cases e2630
              refine zSb1 (f := fun x => decide (0 ≤ x)) (off := 16) (t := 87) vr_168_71 rfl rfl rfl (fun x2631 e2631 q2631 => ?_) (fun x2631 e2631 q2631 => ?_)
              · cases e2631
                have c2631 := of_decide_eq_true q2631
                refine zSp0 (pc' := 88) (st' := .int (0) :: _) vr_168_87 rfl rfl ?_
                refine zS2 (f := fun x y => .int (x + y)) vr_168_88 rfl rfl (fun x2633 y2633 e2633 f2633 => ?_)
                cases e2633
                cases f2633
                refine zSistore (m := 2) (k := 4) vr_168_89 rfl rfl (fun x2634 e2634 => ?_)
                cases e2634
                show zL zrx zi _ 168 91 [(4, _), (7, _), (6, _), (5, _), (0, _), (1, _), (2, _), (3, _)] [] _ _ _
                refine zSiinc vr_168_91 rfl rfl (fun x2635 e2635 => ?_)
                cases e2635
                show zL zrx zi _ 168 94 [(5, _), (4, _), (7, _), (6, _), (0, _), (1, _), (2, _), (3, _)] [] _ _ _
                refine zSgo (t := 6) vr_168_94 rfl rfl ?_
                rw [ofNat_succ]
                refine zL_pm _ _ _ [(5, _), (4, _), (0, _), (1, _), (2, _), (3, _), (6, _), (7, _)] _ _ _ _ _ ⟨(List.forall_mem_cons.mpr ⟨List.mem_cons_self, (List.forall_mem_cons.mpr ⟨(List.mem_cons_of_mem _ List.mem_cons_self), (List.forall_mem_cons.mpr ⟨(List.mem_cons_of_mem _ (List.mem_cons_of_mem _ (List.mem_cons_of_mem _ (List.mem_cons_of_mem _ (List.mem_cons_of_mem _ (List.mem_cons_of_mem _ (List.mem_cons_of_mem _ List.mem_cons_self))))))), (List.forall_mem_cons.mpr ⟨(List.mem_cons_of_mem _ (List.mem_cons_of_mem _ (List.mem_cons_of_mem _ (List.mem_cons_of_mem _ (List.mem_cons_of_mem _ (List.mem_cons_of_mem _ List.mem_cons_self)))))), (List.forall_mem_cons.mpr ⟨(List.mem_cons_of_mem _ (List.mem_cons_of_mem _ List.mem_cons_self)), (List.forall_mem_cons.mpr ⟨(List.mem_cons_of_mem _ (List.mem_cons_of_mem _ (List.mem_cons_of_mem _ List.mem_cons_self))), (List.forall_mem_cons.mpr ⟨(List.mem_cons_of_mem _ (List.mem_cons_of_mem _ (List.mem_cons_of_mem _ (List.mem_cons_of_mem _ List.mem_cons_self)))), (List.forall_mem_cons.mpr ⟨(List.mem_cons_of_mem _ (List.mem_cons_of_mem _ (List.mem_cons_of_mem _ (List.mem_cons_of_mem _ (List.mem_cons_of_mem _ List.mem_cons_self))))), (fun _ h => absurd h List.not_mem_nil)⟩)⟩)⟩)⟩)⟩)⟩)⟩)⟩), show ([5, 4, 0, 1, 2, 3, 6, 7] : List Nat).Nodup by decide⟩ (C_mar_loop hi i3 hS hL hs hq n (k + 1) _ _ _ _ (by omega) ?_)
                first
                  | (have hb : byM rep (iv h 236 k) x (lkM h k A) = _ := if_neg c2582
                     show bMs _ _ k + sgn (byM rep (iv h 236 k) x (lkM h k A)) (iv h (227 + i) k) = _
                     rw [hD, hb]
                     congr 1
                     unfold sgn
                     rw [iv_of g65]
                     exact if_pos (Int32.not_le.mp c2629))
                  | (have hb : byM rep (iv h 236 k) x (lkM h k A) = _ := if_neg c2582
                     show bMs _ _ k + sgn (byM rep (iv h 236 k) x (lkM h k A)) (iv h (227 + i) k) = _
                     rw [hD, hb]
                     congr 1
                     unfold sgn
                     rw [iv_of g82]
                     exact (if_neg (Int32.not_lt.mpr c2629)).trans (if_pos (Int32.not_le.mp c2631)))
                  | (have hb : byM rep (iv h 236 k) x (lkM h k A) = _ := if_neg c2582
                     show bMs _ _ k + sgn (byM rep (iv h 236 k) x (lkM h k A)) (iv h (227 + i) k) = _
                     rw [hD, hb]
                     congr 1
                     unfold sgn
                     exact (if_neg (Int32.not_lt.mpr c2629)).trans (if_neg (Int32.not_lt.mpr c2631)))
                  | (have hb : byM rep (iv h 236 k) x (lkM h k A) = _ := (if_pos c2582).trans (if_neg (by rw [iv_of g37]; exact c2588))
                     show bMs _ _ k + sgn (byM rep (iv h 236 k) x (lkM h k A)) (iv h (227 + i) k) = _
                     rw [hD, hb]
                     congr 1
                     unfold sgn
                     rw [iv_of g65]
                     exact if_pos (Int32.not_le.mp c2629))
                  | (have hb : byM rep (iv h 236 k) x (lkM h k A) = _ := (if_pos c2582).trans (if_neg (by rw [iv_of g37]; exact c2588))
                     show bMs _ _ k + sgn (byM rep (iv h 236 k) x (lkM h k A)) (iv h (227 + i) k) = _
                     rw [hD, hb]
                     congr 1
                     unfold sgn
                     rw [iv_of g82]
                     exact (if_neg (Int32.not_lt.mpr c2629)).trans (if_pos (Int32.not_le.mp c2631)))
                  | (have hb : byM rep (iv h 236 k) x (lkM h k A) = _ := (if_pos c2582).trans (if_neg (by rw [iv_of g37]; exact c2588))
                     show bMs _ _ k + sgn (byM rep (iv h 236 k) x (lkM h k A)) (iv h (227 + i) k) = _
                     rw [hD, hb]
                     congr 1
                     unfold sgn
                     exact (if_neg (Int32.not_lt.mpr c2629)).trans (if_neg (Int32.not_lt.mpr c2631)))
                  | (have hb : byM rep (iv h 236 k) x (lkM h k A) = _ := (if_pos c2582).trans (if_pos (by rw [iv_of g37]; exact Decidable.not_not.mp c2588))
                     show bMs _ _ k + sgn (byM rep (iv h 236 k) x (lkM h k A)) (iv h (227 + i) k) = _
                     rw [hD, hb]
                     congr 1
                     unfold sgn
                     rw [iv_of g65]
                     exact if_pos (Int32.not_le.mp c2629))
                  | (have hb : byM rep (iv h 236 k) x (lkM h k A) = _ := (if_pos c2582).trans (if_pos (by rw [iv_of g37]; exact Decidable.not_not.mp c2588))
                     show bMs _ _ k + sgn (byM rep (iv h 236 k) x (lkM h k A)) (iv h (227 + i) k) = _
                     rw [hD, hb]
                     congr 1
                     unfold sgn
                     rw [iv_of g82]
                     exact (if_neg (Int32.not_lt.mpr c2629)).trans (if_pos (Int32.not_le.mp c2631)))
                  | (have hb : byM rep (iv h 236 k) x (lkM h k A) = _ := (if_pos c2582).trans (if_pos (by rw [iv_of g37]; exact Decidable.not_not.mp c2588))
                     show bMs _ _ k + sgn (byM rep (iv h 236 k) x (lkM h k A)) (iv h (227 + i) k) = _
                     rw [hD, hb]
                     congr 1
                     unfold sgn
                     exact (if_neg (Int32.not_lt.mpr c2629)).trans (if_neg (Int32.not_lt.mpr c2631)))
              · cases e2631
                have c2631 := ndc q2631
                refine zSaload (m := 1) (k := 0) vr_168_74 rfl rfl rfl ?_
                refine zLget vr_168_75 rfl (fun p2638 w2638 e2638 t2638 g2638 => ?_)
                cases e2638
                first | (rw [(st_213_11 hS)] at g2638; cases g2638) | (rw [(st_213_14 hS)] at g2638; cases g2638) | (rw [hH] at g2638; cases g2638) | skip
                refine zSiload (m := 1) (k := 2) vr_168_78 rfl rfl rfl (fun x2639 e2639 => ?_)
                cases e2639
                refine zLaald vr_168_79 rfl (fun p2640 x2640 w2640 e2640 f2640 c2640 t2640 g2640 => ?_)
                cases e2640
                cases f2640
                first | (rw [(st_213_11 hS)] at g2640; cases g2640) | (rw [(st_213_14 hS)] at g2640; cases g2640) | (rw [hH] at g2640; cases g2640) | skip
                refine zSiload (m := 2) (k := 5) vr_168_80 rfl rfl rfl (fun x2641 e2641 => ?_)
                cases e2641
                refine zLiald vr_168_82 rfl (fun p2642 x2642 w2642 e2642 f2642 c2642 t2642 g2642 => ?_)
                cases e2642
                cases f2642
                first | (rw [(st_213_11 hS)] at g2642; cases g2642) | (rw [(st_213_14 hS)] at g2642; cases g2642) | (rw [hH] at g2642; cases g2642) | skip
                have g82 := g2642
                rw [kk.1] at g82
                refine zS1 (f := fun x => .int (-x)) vr_168_83 rfl rfl (fun x2643 e2643 => ?_)
                cases e2643
                refine zSgo (t := 88) vr_168_84 rfl rfl ?_
                refine zS2 (f := fun x y => .int (x + y)) vr_168_88 rfl rfl (fun x2645 y2645 e2645 f2645 => ?_)
                cases e2645
                cases f2645
                refine zSistore (m := 2) (k := 4) vr_168_89 rfl rfl (fun x2646 e2646 => ?_)
                cases e2646
                show zL zrx zi _ 168 91 [(4, _), (7, _), (6, _), (5, _), (0, _), (1, _), (2, _), (3, _)] [] _ _ _
                refine zSiinc vr_168_91 rfl rfl (fun x2647 e2647 => ?_)
                cases e2647
                show zL zrx zi _ 168 94 [(5, _), (4, _), (7, _), (6, _), (0, _), (1, _), (2, _), (3, _)] [] _ _ _
                refine zSgo (t := 6) vr_168_94 rfl rfl ?_
                rw [ofNat_succ]
                refine zL_pm _ _ _ [(5, _), (4, _), (0, _), (1, _), (2, _), (3, _), (6, _), (7, _)] _ _ _ _ _ ⟨(List.forall_mem_cons.mpr ⟨List.mem_cons_self, (List.forall_mem_cons.mpr ⟨(List.mem_cons_of_mem _ List.mem_cons_self), (List.forall_mem_cons.mpr ⟨(List.mem_cons_of_mem _ (List.mem_cons_of_mem _ (List.mem_cons_of_mem _ (List.mem_cons_of_mem _ (List.mem_cons_of_mem _ (List.mem_cons_of_mem _ (List.mem_cons_of_mem _ List.mem_cons_self))))))), (List.forall_mem_cons.mpr ⟨(List.mem_cons_of_mem _ (List.mem_cons_of_mem _ (List.mem_cons_of_mem _ (List.mem_cons_of_mem _ (List.mem_cons_of_mem _ (List.mem_cons_of_mem _ List.mem_cons_self)))))), (List.forall_mem_cons.mpr ⟨(List.mem_cons_of_mem _ (List.mem_cons_of_mem _ List.mem_cons_self)), (List.forall_mem_cons.mpr ⟨(List.mem_cons_of_mem _ (List.mem_cons_of_mem _ (List.mem_cons_of_mem _ List.mem_cons_self))), (List.forall_mem_cons.mpr ⟨(List.mem_cons_of_mem _ (List.mem_cons_of_mem _ (List.mem_cons_of_mem _ (List.mem_cons_of_mem _ List.mem_cons_self)))), (List.forall_mem_cons.mpr ⟨(List.mem_cons_of_mem _ (List.mem_cons_of_mem _ (List.mem_cons_of_mem _ (List.mem_cons_of_mem _ (List.mem_cons_of_mem _ List.mem_cons_self))))), (fun _ h => absurd h List.not_mem_nil)⟩)⟩)⟩)⟩)⟩)⟩)⟩)⟩), show ([5, 4, 0, 1, 2, 3, 6, 7] : List Nat).Nodup by decide⟩ (C_mar_loop hi i3 hS hL hs hq n (k + 1) _ _ _ _ (by omega) ?_)
                first
                  | (have hb : byM rep (iv h 236 k) x (lkM h k A) = _ := if_neg c2582
                     show bMs _ _ k + sgn (byM rep (iv h 236 k) x (lkM h k A)) (iv h (227 + i) k) = _
                     rw [hD, hb]
                     congr 1
                     unfold sgn
                     rw [iv_of g65]
                     exact if_pos (Int32.not_le.mp c2629))
                  | (have hb : byM rep (iv h 236 k) x (lkM h k A) = _ := if_neg c2582
                     show bMs _ _ k + sgn (byM rep (iv h 236 k) x (lkM h k A)) (iv h (227 + i) k) = _
                     rw [hD, hb]
                     congr 1
                     unfold sgn
                     rw [iv_of g82]
                     exact (if_neg (Int32.not_lt.mpr c2629)).trans (if_pos (Int32.not_le.mp c2631)))
                  | (have hb : byM rep (iv h 236 k) x (lkM h k A) = _ := if_neg c2582
                     show bMs _ _ k + sgn (byM rep (iv h 236 k) x (lkM h k A)) (iv h (227 + i) k) = _
                     rw [hD, hb]
                     congr 1
                     unfold sgn
                     exact (if_neg (Int32.not_lt.mpr c2629)).trans (if_neg (Int32.not_lt.mpr c2631)))
                  | (have hb : byM rep (iv h 236 k) x (lkM h k A) = _ := (if_pos c2582).trans (if_neg (by rw [iv_of g37]; exact c2588))
                     show bMs _ _ k + sgn (byM rep (iv h 236 k) x (lkM h k A)) (iv h (227 + i) k) = _
                     rw [hD, hb]
                     congr 1
                     unfold sgn
                     rw [iv_of g65]
                     exact if_pos (Int32.not_le.mp c2629))
                  | (have hb : byM rep (iv h 236 k) x (lkM h k A) = _ := (if_pos c2582).trans (if_neg (by rw [iv_of g37]; exact c2588))
                     show bMs _ _ k + sgn (byM rep (iv h 236 k) x (lkM h k A)) (iv h (227 + i) k) = _
                     rw [hD, hb]
                     congr 1
                     unfold sgn
                     rw [iv_of g82]
                     exact (if_neg (Int32.not_lt.mpr c2629)).trans (if_pos (Int32.not_le.mp c2631)))
                  | (have hb : byM rep (iv h 236 k) x (lkM h k A) = _ := (if_pos c2582).trans (if_neg (by rw [iv_of g37]; exact c2588))
                     show bMs _ _ k + sgn (byM rep (iv h 236 k) x (lkM h k A)) (iv h (227 + i) k) = _
                     rw [hD, hb]
                     congr 1
                     unfold sgn
                     exact (if_neg (Int32.not_lt.mpr c2629)).trans (if_neg (Int32.not_lt.mpr c2631)))
                  | (have hb : byM rep (iv h 236 k) x (lkM h k A) = _ := (if_pos c2582).trans (if_pos (by rw [iv_of g37]; exact Decidable.not_not.mp c2588))
                     show bMs _ _ k + sgn (byM rep (iv h 236 k) x (lkM h k A)) (iv h (227 + i) k) = _
                     rw [hD, hb]
                     congr 1
                     unfold sgn
                     rw [iv_of g65]
                     exact if_pos (Int32.not_le.mp c2629))
                  | (have hb : byM rep (iv h 236 k) x (lkM h k A) = _ := (if_pos c2582).trans (if_pos (by rw [iv_of g37]; exact Decidable.not_not.mp c2588))
                     show bMs _ _ k + sgn (byM rep (iv h 236 k) x (lkM h k A)) (iv h (227 + i) k) = _
                     rw [hD, hb]
                     congr 1
                     unfold sgn
                     rw [iv_of g82]
                     exact (if_neg (Int32.not_lt.mpr c2629)).trans (if_pos (Int32.not_le.mp c2631)))
                  | (have hb : byM rep (iv h 236 k) x (lkM h k A) = _ := (if_pos c2582).trans (if_pos (by rw [iv_of g37]; exact Decidable.not_not.mp c2588))
                     show bMs _ _ k + sgn (byM rep (iv h 236 k) x (lkM h k A)) (iv h (227 + i) k) = _
                     rw [hD, hb]
                     congr 1
                     unfold sgn
                     exact (if_neg (Int32.not_lt.mpr c2629)).trans (if_neg (Int32.not_lt.mpr c2631)))
            · cases e2629
              have c2629 := ndc q2629
              refine zSaload (m := 1) (k := 0) vr_168_57 rfl rfl rfl ?_
              refine zLget vr_168_58 rfl (fun p2650 w2650 e2650 t2650 g2650 => ?_)
              cases e2650
              first | (rw [(st_213_11 hS)] at g2650; cases g2650) | (rw [(st_213_14 hS)] at g2650; cases g2650) | (rw [hH] at g2650; cases g2650) | skip
              refine zSiload (m := 1) (k := 2) vr_168_61 rfl rfl rfl (fun x2651 e2651 => ?_)
              cases e2651
              refine zLaald vr_168_62 rfl (fun p2652 x2652 w2652 e2652 f2652 c2652 t2652 g2652 => ?_)
              cases e2652
              cases f2652
              first | (rw [(st_213_11 hS)] at g2652; cases g2652) | (rw [(st_213_14 hS)] at g2652; cases g2652) | (rw [hH] at g2652; cases g2652) | skip
              refine zSiload (m := 2) (k := 5) vr_168_63 rfl rfl rfl (fun x2653 e2653 => ?_)
              cases e2653
              refine zLiald vr_168_65 rfl (fun p2654 x2654 w2654 e2654 f2654 c2654 t2654 g2654 => ?_)
              cases e2654
              cases f2654
              first | (rw [(st_213_11 hS)] at g2654; cases g2654) | (rw [(st_213_14 hS)] at g2654; cases g2654) | (rw [hH] at g2654; cases g2654) | skip
              have g65 := g2654
              rw [kk.1] at g65
              refine zSgo (t := 88) vr_168_66 rfl rfl ?_
              refine zS2 (f := fun x y => .int (x + y)) vr_168_88 rfl rfl (fun x2656 y2656 e2656 f2656 => ?_)
              cases e2656
              cases f2656
              refine zSistore (m := 2) (k := 4) vr_168_89 rfl rfl (fun x2657 e2657 => ?_)
              cases e2657
              show zL zrx zi _ 168 91 [(4, _), (7, _), (6, _), (5, _), (0, _), (1, _), (2, _), (3, _)] [] _ _ _
              refine zSiinc vr_168_91 rfl rfl (fun x2658 e2658 => ?_)
              cases e2658
              show zL zrx zi _ 168 94 [(5, _), (4, _), (7, _), (6, _), (0, _), (1, _), (2, _), (3, _)] [] _ _ _
              refine zSgo (t := 6) vr_168_94 rfl rfl ?_
              rw [ofNat_succ]
              refine zL_pm _ _ _ [(5, _), (4, _), (0, _), (1, _), (2, _), (3, _), (6, _), (7, _)] _ _ _ _ _ ⟨(List.forall_mem_cons.mpr ⟨List.mem_cons_self, (List.forall_mem_cons.mpr ⟨(List.mem_cons_of_mem _ List.mem_cons_self), (List.forall_mem_cons.mpr ⟨(List.mem_cons_of_mem _ (List.mem_cons_of_mem _ (List.mem_cons_of_mem _ (List.mem_cons_of_mem _ (List.mem_cons_of_mem _ (List.mem_cons_of_mem _ (List.mem_cons_of_mem _ List.mem_cons_self))))))), (List.forall_mem_cons.mpr ⟨(List.mem_cons_of_mem _ (List.mem_cons_of_mem _ (List.mem_cons_of_mem _ (List.mem_cons_of_mem _ (List.mem_cons_of_mem _ (List.mem_cons_of_mem _ List.mem_cons_self)))))), (List.forall_mem_cons.mpr ⟨(List.mem_cons_of_mem _ (List.mem_cons_of_mem _ List.mem_cons_self)), (List.forall_mem_cons.mpr ⟨(List.mem_cons_of_mem _ (List.mem_cons_of_mem _ (List.mem_cons_of_mem _ List.mem_cons_self))), (List.forall_mem_cons.mpr ⟨(List.mem_cons_of_mem _ (List.mem_cons_of_mem _ (List.mem_cons_of_mem _ (List.mem_cons_of_mem _ List.mem_cons_self)))), (List.forall_mem_cons.mpr ⟨(List.mem_cons_of_mem _ (List.mem_cons_of_mem _ (List.mem_cons_of_mem _ (List.mem_cons_of_mem _ (List.mem_cons_of_mem _ List.mem_cons_self))))), (fun _ h => absurd h List.not_mem_nil)⟩)⟩)⟩)⟩)⟩)⟩)⟩)⟩), show ([5, 4, 0, 1, 2, 3, 6, 7] : List Nat).Nodup by decide⟩ (C_mar_loop hi i3 hS hL hs hq n (k + 1) _ _ _ _ (by omega) ?_)
              first
                | (have hb : byM rep (iv h 236 k) x (lkM h k A) = _ := if_neg c2582
                   show bMs _ _ k + sgn (byM rep (iv h 236 k) x (lkM h k A)) (iv h (227 + i) k) = _
                   rw [hD, hb]
                   congr 1
                   unfold sgn
                   rw [iv_of g65]
                   exact if_pos (Int32.not_le.mp c2629))
                | (have hb : byM rep (iv h 236 k) x (lkM h k A) = _ := if_neg c2582
                   show bMs _ _ k + sgn (byM rep (iv h 236 k) x (lkM h k A)) (iv h (227 + i) k) = _
                   rw [hD, hb]
                   congr 1
                   unfold sgn
                   rw [iv_of g82]
                   exact (if_neg (Int32.not_lt.mpr c2629)).trans (if_pos (Int32.not_le.mp c2631)))
                | (have hb : byM rep (iv h 236 k) x (lkM h k A) = _ := if_neg c2582
                   show bMs _ _ k + sgn (byM rep (iv h 236 k) x (lkM h k A)) (iv h (227 + i) k) = _
                   rw [hD, hb]
                   congr 1
                   unfold sgn
                   exact (if_neg (Int32.not_lt.mpr c2629)).trans (if_neg (Int32.not_lt.mpr c2631)))
                | (have hb : byM rep (iv h 236 k) x (lkM h k A) = _ := (if_pos c2582).trans (if_neg (by rw [iv_of g37]; exact c2588))
                   show bMs _ _ k + sgn (byM rep (iv h 236 k) x (lkM h k A)) (iv h (227 + i) k) = _
                   rw [hD, hb]
                   congr 1
                   unfold sgn
                   rw [iv_of g65]
                   exact if_pos (Int32.not_le.mp c2629))
                | (have hb : byM rep (iv h 236 k) x (lkM h k A) = _ := (if_pos c2582).trans (if_neg (by rw [iv_of g37]; exact c2588))
                   show bMs _ _ k + sgn (byM rep (iv h 236 k) x (lkM h k A)) (iv h (227 + i) k) = _
                   rw [hD, hb]
                   congr 1
                   unfold sgn
                   rw [iv_of g82]
                   exact (if_neg (Int32.not_lt.mpr c2629)).trans (if_pos (Int32.not_le.mp c2631)))
                | (have hb : byM rep (iv h 236 k) x (lkM h k A) = _ := (if_pos c2582).trans (if_neg (by rw [iv_of g37]; exact c2588))
                   show bMs _ _ k + sgn (byM rep (iv h 236 k) x (lkM h k A)) (iv h (227 + i) k) = _
                   rw [hD, hb]
                   congr 1
                   unfold sgn
                   exact (if_neg (Int32.not_lt.mpr c2629)).trans (if_neg (Int32.not_lt.mpr c2631)))
                | (have hb : byM rep (iv h 236 k) x (lkM h k A) = _ := (if_pos c2582).trans (if_pos (by rw [iv_of g37]; exact Decidable.not_not.mp c2588))
                   show bMs _ _ k + sgn (byM rep (iv h 236 k) x (lkM h k A)) (iv h (227 + i) k) = _
                   rw [hD, hb]
                   congr 1
                   unfold sgn
                   rw [iv_of g65]
                   exact if_pos (Int32.not_le.mp c2629))
                | (have hb : byM rep (iv h 236 k) x (lkM h k A) = _ := (if_pos c2582).trans (if_pos (by rw [iv_of g37]; exact Decidable.not_not.mp c2588))
                   show bMs _ _ k + sgn (byM rep (iv h 236 k) x (lkM h k A)) (iv h (227 + i) k) = _
                   rw [hD, hb]
                   congr 1
                   unfold sgn
                   rw [iv_of g82]
                   exact (if_neg (Int32.not_lt.mpr c2629)).trans (if_pos (Int32.not_le.mp c2631)))
                | (have hb : byM rep (iv h 236 k) x (lkM h k A) = _ := (if_pos c2582).trans (if_pos (by rw [iv_of g37]; exact Decidable.not_not.mp c2588))
                   show bMs _ _ k + sgn (byM rep (iv h 236 k) x (lkM h k A)) (iv h (227 + i) k) = _
                   rw [hD, hb]
                   congr 1
                   unfold sgn
                   exact (if_neg (Int32.not_lt.mpr c2629)).trans (if_neg (Int32.not_lt.mpr c2631)))
        · cases e2582
          have c2582 := ndc q2582
          refine zSiload (m := 2) (k := 6) vr_168_25 rfl rfl rfl (fun x2660 e2660 => ?_)
          cases e2660
          refine zS1 (f := fun x => .int (-x)) vr_168_27 rfl rfl (fun x2661 e2661 => ?_)
          cases e2661
          refine zSgo (t := 48) vr_168_28 rfl rfl ?_
          refine zSistore (m := 2) (k := 7) vr_168_48 rfl rfl (fun x2663 e2663 => ?_)
          cases e2663
          show zL zrx zi _ 168 50 [(7, _), (6, _), (5, _), (4, _), (0, _), (1, _), (2, _), (3, _)] [] _ _ _
          refine zSiload (m := 2) (k := 4) vr_168_50 rfl rfl rfl (fun x2664 e2664 => ?_)
          cases e2664
          refine zSiload (m := 2) (k := 7) vr_168_52 rfl rfl rfl (fun x2665 e2665 => ?_)
          cases e2665
          refine zSb1 (f := fun x => decide (x ≤ 0)) (off := 15) (t := 69) vr_168_54 rfl rfl rfl (fun x2666 e2666 q2666 => ?_) (fun x2666 e2666 q2666 => ?_)
          · cases e2666
            have c2666 := of_decide_eq_true q2666
            refine zSiload (m := 2) (k := 7) vr_168_69 rfl rfl rfl (fun x2667 e2667 => ?_)
            cases e2667
            refine zSb1 (f := fun x => decide (0 ≤ x)) (off := 16) (t := 87) vr_168_71 rfl rfl rfl (fun x2668 e2668 q2668 => ?_) (fun x2668 e2668 q2668 => ?_)
            · cases e2668
              have c2668 := of_decide_eq_true q2668
              refine zSp0 (pc' := 88) (st' := .int (0) :: _) vr_168_87 rfl rfl ?_
              refine zS2 (f := fun x y => .int (x + y)) vr_168_88 rfl rfl (fun x2670 y2670 e2670 f2670 => ?_)
              cases e2670
              cases f2670
              refine zSistore (m := 2) (k := 4) vr_168_89 rfl rfl (fun x2671 e2671 => ?_)
              cases e2671
              show zL zrx zi _ 168 91 [(4, _), (7, _), (6, _), (5, _), (0, _), (1, _), (2, _), (3, _)] [] _ _ _
              refine zSiinc vr_168_91 rfl rfl (fun x2672 e2672 => ?_)
              cases e2672
              show zL zrx zi _ 168 94 [(5, _), (4, _), (7, _), (6, _), (0, _), (1, _), (2, _), (3, _)] [] _ _ _
              refine zSgo (t := 6) vr_168_94 rfl rfl ?_
              rw [ofNat_succ]
              refine zL_pm _ _ _ [(5, _), (4, _), (0, _), (1, _), (2, _), (3, _), (6, _), (7, _)] _ _ _ _ _ ⟨(List.forall_mem_cons.mpr ⟨List.mem_cons_self, (List.forall_mem_cons.mpr ⟨(List.mem_cons_of_mem _ List.mem_cons_self), (List.forall_mem_cons.mpr ⟨(List.mem_cons_of_mem _ (List.mem_cons_of_mem _ (List.mem_cons_of_mem _ (List.mem_cons_of_mem _ (List.mem_cons_of_mem _ (List.mem_cons_of_mem _ (List.mem_cons_of_mem _ List.mem_cons_self))))))), (List.forall_mem_cons.mpr ⟨(List.mem_cons_of_mem _ (List.mem_cons_of_mem _ (List.mem_cons_of_mem _ (List.mem_cons_of_mem _ (List.mem_cons_of_mem _ (List.mem_cons_of_mem _ List.mem_cons_self)))))), (List.forall_mem_cons.mpr ⟨(List.mem_cons_of_mem _ (List.mem_cons_of_mem _ List.mem_cons_self)), (List.forall_mem_cons.mpr ⟨(List.mem_cons_of_mem _ (List.mem_cons_of_mem _ (List.mem_cons_of_mem _ List.mem_cons_self))), (List.forall_mem_cons.mpr ⟨(List.mem_cons_of_mem _ (List.mem_cons_of_mem _ (List.mem_cons_of_mem _ (List.mem_cons_of_mem _ List.mem_cons_self)))), (List.forall_mem_cons.mpr ⟨(List.mem_cons_of_mem _ (List.mem_cons_of_mem _ (List.mem_cons_of_mem _ (List.mem_cons_of_mem _ (List.mem_cons_of_mem _ List.mem_cons_self))))), (fun _ h => absurd h List.not_mem_nil)⟩)⟩)⟩)⟩)⟩)⟩)⟩)⟩), show ([5, 4, 0, 1, 2, 3, 6, 7] : List Nat).Nodup by decide⟩ (C_mar_loop hi i3 hS hL hs hq n (k + 1) _ _ _ _ (by omega) ?_)
              first
                | (have hb : byM rep (iv h 236 k) x (lkM h k A) = _ := if_neg c2582
                   show bMs _ _ k + sgn (byM rep (iv h 236 k) x (lkM h k A)) (iv h (227 + i) k) = _
                   rw [hD, hb]
                   congr 1
                   unfold sgn
                   rw [iv_of g65]
                   exact if_pos (Int32.not_le.mp c2666))
                | (have hb : byM rep (iv h 236 k) x (lkM h k A) = _ := if_neg c2582
                   show bMs _ _ k + sgn (byM rep (iv h 236 k) x (lkM h k A)) (iv h (227 + i) k) = _
                   rw [hD, hb]
                   congr 1
                   unfold sgn
                   rw [iv_of g82]
                   exact (if_neg (Int32.not_lt.mpr c2666)).trans (if_pos (Int32.not_le.mp c2668)))
                | (have hb : byM rep (iv h 236 k) x (lkM h k A) = _ := if_neg c2582
                   show bMs _ _ k + sgn (byM rep (iv h 236 k) x (lkM h k A)) (iv h (227 + i) k) = _
                   rw [hD, hb]
                   congr 1
                   unfold sgn
                   exact (if_neg (Int32.not_lt.mpr c2666)).trans (if_neg (Int32.not_lt.mpr c2668)))
                | (have hb : byM rep (iv h 236 k) x (lkM h k A) = _ := (if_pos c2582).trans (if_neg (by rw [iv_of g37]; exact c2588))
                   show bMs _ _ k + sgn (byM rep (iv h 236 k) x (lkM h k A)) (iv h (227 + i) k) = _
                   rw [hD, hb]
                   congr 1
                   unfold sgn
                   rw [iv_of g65]
                   exact if_pos (Int32.not_le.mp c2666))
                | (have hb : byM rep (iv h 236 k) x (lkM h k A) = _ := (if_pos c2582).trans (if_neg (by rw [iv_of g37]; exact c2588))
                   show bMs _ _ k + sgn (byM rep (iv h 236 k) x (lkM h k A)) (iv h (227 + i) k) = _
                   rw [hD, hb]
                   congr 1
                   unfold sgn
                   rw [iv_of g82]
                   exact (if_neg (Int32.not_lt.mpr c2666)).trans (if_pos (Int32.not_le.mp c2668)))
                | (have hb : byM rep (iv h 236 k) x (lkM h k A) = _ := (if_pos c2582).trans (if_neg (by rw [iv_of g37]; exact c2588))
                   show bMs _ _ k + sgn (byM rep (iv h 236 k) x (lkM h k A)) (iv h (227 + i) k) = _
                   rw [hD, hb]
                   congr 1
                   unfold sgn
                   exact (if_neg (Int32.not_lt.mpr c2666)).trans (if_neg (Int32.not_lt.mpr c2668)))
                | (have hb : byM rep (iv h 236 k) x (lkM h k A) = _ := (if_pos c2582).trans (if_pos (by rw [iv_of g37]; exact Decidable.not_not.mp c2588))
                   show bMs _ _ k + sgn (byM rep (iv h 236 k) x (lkM h k A)) (iv h (227 + i) k) = _
                   rw [hD, hb]
                   congr 1
                   unfold sgn
                   rw [iv_of g65]
                   exact if_pos (Int32.not_le.mp c2666))
                | (have hb : byM rep (iv h 236 k) x (lkM h k A) = _ := (if_pos c2582).trans (if_pos (by rw [iv_of g37]; exact Decidable.not_not.mp c2588))
                   show bMs _ _ k + sgn (byM rep (iv h 236 k) x (lkM h k A)) (iv h (227 + i) k) = _
                   rw [hD, hb]
                   congr 1
                   unfold sgn
                   rw [iv_of g82]
                   exact (if_neg (Int32.not_lt.mpr c2666)).trans (if_pos (Int32.not_le.mp c2668)))
                | (have hb : byM rep (iv h 236 k) x (lkM h k A) = _ := (if_pos c2582).trans (if_pos (by rw [iv_of g37]; exact Decidable.not_not.mp c2588))
                   show bMs _ _ k + sgn (byM rep (iv h 236 k) x (lkM h k A)) (iv h (227 + i) k) = _
                   rw [hD, hb]
                   congr 1
                   unfold sgn
                   exact (if_neg (Int32.not_lt.mpr c2666)).trans (if_neg (Int32.not_lt.mpr c2668)))
            · cases e2668
              have c2668 := ndc q2668
              refine zSaload (m := 1) (k := 0) vr_168_74 rfl rfl rfl ?_
              refine zLget vr_168_75 rfl (fun p2675 w2675 e2675 t2675 g2675 => ?_)
              cases e2675
              first | (rw [(st_213_11 hS)] at g2675; cases g2675) | (rw [(st_213_14 hS)] at g2675; cases g2675) | (rw [hH] at g2675; cases g2675) | skip
              refine zSiload (m := 1) (k := 2) vr_168_78 rfl rfl rfl (fun x2676 e2676 => ?_)
              cases e2676
              refine zLaald vr_168_79 rfl (fun p2677 x2677 w2677 e2677 f2677 c2677 t2677 g2677 => ?_)
              cases e2677
              cases f2677
              first | (rw [(st_213_11 hS)] at g2677; cases g2677) | (rw [(st_213_14 hS)] at g2677; cases g2677) | (rw [hH] at g2677; cases g2677) | skip
              refine zSiload (m := 2) (k := 5) vr_168_80 rfl rfl rfl (fun x2678 e2678 => ?_)
              cases e2678
              refine zLiald vr_168_82 rfl (fun p2679 x2679 w2679 e2679 f2679 c2679 t2679 g2679 => ?_)
              cases e2679
              cases f2679
              first | (rw [(st_213_11 hS)] at g2679; cases g2679) | (rw [(st_213_14 hS)] at g2679; cases g2679) | (rw [hH] at g2679; cases g2679) | skip
              have g82 := g2679
              rw [kk.1] at g82
              refine zS1 (f := fun x => .int (-x)) vr_168_83 rfl rfl (fun x2680 e2680 => ?_)
              cases e2680
              refine zSgo (t := 88) vr_168_84 rfl rfl ?_
              refine zS2 (f := fun x y => .int (x + y)) vr_168_88 rfl rfl (fun x2682 y2682 e2682 f2682 => ?_)
              cases e2682
              cases f2682
              refine zSistore (m := 2) (k := 4) vr_168_89 rfl rfl (fun x2683 e2683 => ?_)
              cases e2683
              show zL zrx zi _ 168 91 [(4, _), (7, _), (6, _), (5, _), (0, _), (1, _), (2, _), (3, _)] [] _ _ _
              refine zSiinc vr_168_91 rfl rfl (fun x2684 e2684 => ?_)
              cases e2684
              show zL zrx zi _ 168 94 [(5, _), (4, _), (7, _), (6, _), (0, _), (1, _), (2, _), (3, _)] [] _ _ _
              refine zSgo (t := 6) vr_168_94 rfl rfl ?_
              rw [ofNat_succ]
              refine zL_pm _ _ _ [(5, _), (4, _), (0, _), (1, _), (2, _), (3, _), (6, _), (7, _)] _ _ _ _ _ ⟨(List.forall_mem_cons.mpr ⟨List.mem_cons_self, (List.forall_mem_cons.mpr ⟨(List.mem_cons_of_mem _ List.mem_cons_self), (List.forall_mem_cons.mpr ⟨(List.mem_cons_of_mem _ (List.mem_cons_of_mem _ (List.mem_cons_of_mem _ (List.mem_cons_of_mem _ (List.mem_cons_of_mem _ (List.mem_cons_of_mem _ (List.mem_cons_of_mem _ List.mem_cons_self))))))), (List.forall_mem_cons.mpr ⟨(List.mem_cons_of_mem _ (List.mem_cons_of_mem _ (List.mem_cons_of_mem _ (List.mem_cons_of_mem _ (List.mem_cons_of_mem _ (List.mem_cons_of_mem _ List.mem_cons_self)))))), (List.forall_mem_cons.mpr ⟨(List.mem_cons_of_mem _ (List.mem_cons_of_mem _ List.mem_cons_self)), (List.forall_mem_cons.mpr ⟨(List.mem_cons_of_mem _ (List.mem_cons_of_mem _ (List.mem_cons_of_mem _ List.mem_cons_self))), (List.forall_mem_cons.mpr ⟨(List.mem_cons_of_mem _ (List.mem_cons_of_mem _ (List.mem_cons_of_mem _ (List.mem_cons_of_mem _ List.mem_cons_self)))), (List.forall_mem_cons.mpr ⟨(List.mem_cons_of_mem _ (List.mem_cons_of_mem _ (List.mem_cons_of_mem _ (List.mem_cons_of_mem _ (List.mem_cons_of_mem _ List.mem_cons_self))))), (fun _ h => absurd h List.not_mem_nil)⟩)⟩)⟩)⟩)⟩)⟩)⟩)⟩), show ([5, 4, 0, 1, 2, 3, 6, 7] : List Nat).Nodup by decide⟩ (C_mar_loop hi i3 hS hL hs hq n (k + 1) _ _ _ _ (by omega) ?_)
              first
                | (have hb : byM rep (iv h 236 k) x (lkM h k A) = _ := if_neg c2582
                   show bMs _ _ k + sgn (byM rep (iv h 236 k) x (lkM h k A)) (iv h (227 + i) k) = _
                   rw [hD, hb]
                   congr 1
                   unfold sgn
                   rw [iv_of g65]
                   exact if_pos (Int32.not_le.mp c2666))
                | (have hb : byM rep (iv h 236 k) x (lkM h k A) = _ := if_neg c2582
                   show bMs _ _ k + sgn (byM rep (iv h 236 k) x (lkM h k A)) (iv h (227 + i) k) = _
                   rw [hD, hb]
                   congr 1
                   unfold sgn
                   rw [iv_of g82]
                   exact (if_neg (Int32.not_lt.mpr c2666)).trans (if_pos (Int32.not_le.mp c2668)))
                | (have hb : byM rep (iv h 236 k) x (lkM h k A) = _ := if_neg c2582
                   show bMs _ _ k + sgn (byM rep (iv h 236 k) x (lkM h k A)) (iv h (227 + i) k) = _
                   rw [hD, hb]
                   congr 1
                   unfold sgn
                   exact (if_neg (Int32.not_lt.mpr c2666)).trans (if_neg (Int32.not_lt.mpr c2668)))
                | (have hb : byM rep (iv h 236 k) x (lkM h k A) = _ := (if_pos c2582).trans (if_neg (by rw [iv_of g37]; exact c2588))
                   show bMs _ _ k + sgn (byM rep (iv h 236 k) x (lkM h k A)) (iv h (227 + i) k) = _
                   rw [hD, hb]
                   congr 1
                   unfold sgn
                   rw [iv_of g65]
                   exact if_pos (Int32.not_le.mp c2666))
                | (have hb : byM rep (iv h 236 k) x (lkM h k A) = _ := (if_pos c2582).trans (if_neg (by rw [iv_of g37]; exact c2588))
                   show bMs _ _ k + sgn (byM rep (iv h 236 k) x (lkM h k A)) (iv h (227 + i) k) = _
                   rw [hD, hb]
                   congr 1
                   unfold sgn
                   rw [iv_of g82]
                   exact (if_neg (Int32.not_lt.mpr c2666)).trans (if_pos (Int32.not_le.mp c2668)))
                | (have hb : byM rep (iv h 236 k) x (lkM h k A) = _ := (if_pos c2582).trans (if_neg (by rw [iv_of g37]; exact c2588))
                   show bMs _ _ k + sgn (byM rep (iv h 236 k) x (lkM h k A)) (iv h (227 + i) k) = _
                   rw [hD, hb]
                   congr 1
                   unfold sgn
                   exact (if_neg (Int32.not_lt.mpr c2666)).trans (if_neg (Int32.not_lt.mpr c2668)))
                | (have hb : byM rep (iv h 236 k) x (lkM h k A) = _ := (if_pos c2582).trans (if_pos (by rw [iv_of g37]; exact Decidable.not_not.mp c2588))
                   show bMs _ _ k + sgn (byM rep (iv h 236 k) x (lkM h k A)) (iv h (227 + i) k) = _
                   rw [hD, hb]
                   congr 1
                   unfold sgn
                   rw [iv_of g65]
                   exact if_pos (Int32.not_le.mp c2666))
                | (have hb : byM rep (iv h 236 k) x (lkM h k A) = _ := (if_pos c2582).trans (if_pos (by rw [iv_of g37]; exact Decidable.not_not.mp c2588))
                   show bMs _ _ k + sgn (byM rep (iv h 236 k) x (lkM h k A)) (iv h (227 + i) k) = _
                   rw [hD, hb]
                   congr 1
                   unfold sgn
                   rw [iv_of g82]
                   exact (if_neg (Int32.not_lt.mpr c2666)).trans (if_pos (Int32.not_le.mp c2668)))
                | (have hb : byM rep (iv h 236 k) x (lkM h k A) = _ := (if_pos c2582).trans (if_pos (by rw [iv_of g37]; exact Decidable.not_not.mp c2588))
                   show bMs _ _ k + sgn (byM rep (iv h 236 k) x (lkM h k A)) (iv h (227 + i) k) = _
                   rw [hD, hb]
                   congr 1
                   unfold sgn
                   exact (if_neg (Int32.not_lt.mpr c2666)).trans (if_neg (Int32.not_lt.mpr c2668)))
          · cases e2666
            have c2666 := ndc q2666
            refine zSaload (m := 1) (k := 0) vr_168_57 rfl rfl rfl ?_
            refine zLget vr_168_58 rfl (fun p2687 w2687 e2687 t2687 g2687 => ?_)
            cases e2687
            first | (rw [(st_213_11 hS)] at g2687; cases g2687) | (rw [(st_213_14 hS)] at g2687; cases g2687) | (rw [hH] at g2687; cases g2687) | skip
            refine zSiload (m := 1) (k := 2) vr_168_61 rfl rfl rfl (fun x2688 e2688 => ?_)
            cases e2688
            refine zLaald vr_168_62 rfl (fun p2689 x2689 w2689 e2689 f2689 c2689 t2689 g2689 => ?_)
            cases e2689
            cases f2689
            first | (rw [(st_213_11 hS)] at g2689; cases g2689) | (rw [(st_213_14 hS)] at g2689; cases g2689) | (rw [hH] at g2689; cases g2689) | skip
            refine zSiload (m := 2) (k := 5) vr_168_63 rfl rfl rfl (fun x2690 e2690 => ?_)
            cases e2690
            refine zLiald vr_168_65 rfl (fun p2691 x2691 w2691 e2691 f2691 c2691 t2691 g2691 => ?_)
            cases e2691
            cases f2691
            first | (rw [(st_213_11 hS)] at g2691; cases g2691) | (rw [(st_213_14 hS)] at g2691; cases g2691) | (rw [hH] at g2691; cases g2691) | skip
            have g65 := g2691
            rw [kk.1] at g65
            refine zSgo (t := 88) vr_168_66 rfl rfl ?_
            refine zS2 (f := fun x y => .int (x + y)) vr_168_88 rfl rfl (fun x2693 y2693 e2693 f2693 => ?_)
            cases e2693
            cases f2693
            refine zSistore (m := 2) (k := 4) vr_168_89 rfl rfl (fun x2694 e2694 => ?_)
            cases e2694
            show zL zrx zi _ 168 91 [(4, _), (7, _), (6, _), (5, _), (0, _), (1, _), (2, _), (3, _)] [] _ _ _
            refine zSiinc vr_168_91 rfl rfl (fun x2695 e2695 => ?_)
            cases e2695
            show zL zrx zi _ 168 94 [(5, _), (4, _), (7, _), (6, _), (0, _), (1, _), (2, _), (3, _)] [] _ _ _
            refine zSgo (t := 6) vr_168_94 rfl rfl ?_
            rw [ofNat_succ]
            refine zL_pm _ _ _ [(5, _), (4, _), (0, _), (1, _), (2, _), (3, _), (6, _), (7, _)] _ _ _ _ _ ⟨(List.forall_mem_cons.mpr ⟨List.mem_cons_self, (List.forall_mem_cons.mpr ⟨(List.mem_cons_of_mem _ List.mem_cons_self), (List.forall_mem_cons.mpr ⟨(List.mem_cons_of_mem _ (List.mem_cons_of_mem _ (List.mem_cons_of_mem _ (List.mem_cons_of_mem _ (List.mem_cons_of_mem _ (List.mem_cons_of_mem _ (List.mem_cons_of_mem _ List.mem_cons_self))))))), (List.forall_mem_cons.mpr ⟨(List.mem_cons_of_mem _ (List.mem_cons_of_mem _ (List.mem_cons_of_mem _ (List.mem_cons_of_mem _ (List.mem_cons_of_mem _ (List.mem_cons_of_mem _ List.mem_cons_self)))))), (List.forall_mem_cons.mpr ⟨(List.mem_cons_of_mem _ (List.mem_cons_of_mem _ List.mem_cons_self)), (List.forall_mem_cons.mpr ⟨(List.mem_cons_of_mem _ (List.mem_cons_of_mem _ (List.mem_cons_of_mem _ List.mem_cons_self))), (List.forall_mem_cons.mpr ⟨(List.mem_cons_of_mem _ (List.mem_cons_of_mem _ (List.mem_cons_of_mem _ (List.mem_cons_of_mem _ List.mem_cons_self)))), (List.forall_mem_cons.mpr ⟨(List.mem_cons_of_mem _ (List.mem_cons_of_mem _ (List.mem_cons_of_mem _ (List.mem_cons_of_mem _ (List.mem_cons_of_mem _ List.mem_cons_self))))), (fun _ h => absurd h List.not_mem_nil)⟩)⟩)⟩)⟩)⟩)⟩)⟩)⟩), show ([5, 4, 0, 1, 2, 3, 6, 7] : List Nat).Nodup by decide⟩ (C_mar_loop hi i3 hS hL hs hq n (k + 1) _ _ _ _ (by omega) ?_)
            first
              | (have hb : byM rep (iv h 236 k) x (lkM h k A) = _ := if_neg c2582
                 show bMs _ _ k + sgn (byM rep (iv h 236 k) x (lkM h k A)) (iv h (227 + i) k) = _
                 rw [hD, hb]
                 congr 1
                 unfold sgn
                 rw [iv_of g65]
                 exact if_pos (Int32.not_le.mp c2666))
              | (have hb : byM rep (iv h 236 k) x (lkM h k A) = _ := if_neg c2582
                 show bMs _ _ k + sgn (byM rep (iv h 236 k) x (lkM h k A)) (iv h (227 + i) k) = _
                 rw [hD, hb]
                 congr 1
                 unfold sgn
                 rw [iv_of g82]
                 exact (if_neg (Int32.not_lt.mpr c2666)).trans (if_pos (Int32.not_le.mp c2668)))
              | (have hb : byM rep (iv h 236 k) x (lkM h k A) = _ := if_neg c2582
                 show bMs _ _ k + sgn (byM rep (iv h 236 k) x (lkM h k A)) (iv h (227 + i) k) = _
                 rw [hD, hb]
                 congr 1
                 unfold sgn
                 exact (if_neg (Int32.not_lt.mpr c2666)).trans (if_neg (Int32.not_lt.mpr c2668)))
              | (have hb : byM rep (iv h 236 k) x (lkM h k A) = _ := (if_pos c2582).trans (if_neg (by rw [iv_of g37]; exact c2588))
                 show bMs _ _ k + sgn (byM rep (iv h 236 k) x (lkM h k A)) (iv h (227 + i) k) = _
                 rw [hD, hb]
                 congr 1
                 unfold sgn
                 rw [iv_of g65]
                 exact if_pos (Int32.not_le.mp c2666))
              | (have hb : byM rep (iv h 236 k) x (lkM h k A) = _ := (if_pos c2582).trans (if_neg (by rw [iv_of g37]; exact c2588))
                 show bMs _ _ k + sgn (byM rep (iv h 236 k) x (lkM h k A)) (iv h (227 + i) k) = _
                 rw [hD, hb]
                 congr 1
                 unfold sgn
                 rw [iv_of g82]
                 exact (if_neg (Int32.not_lt.mpr c2666)).trans (if_pos (Int32.not_le.mp c2668)))
              | (have hb : byM rep (iv h 236 k) x (lkM h k A) = _ := (if_pos c2582).trans (if_neg (by rw [iv_of g37]; exact c2588))
                 show bMs _ _ k + sgn (byM rep (iv h 236 k) x (lkM h k A)) (iv h (227 + i) k) = _
                 rw [hD, hb]
                 congr 1
                 unfold sgn
                 exact (if_neg (Int32.not_lt.mpr c2666)).trans (if_neg (Int32.not_lt.mpr c2668)))
              | (have hb : byM rep (iv h 236 k) x (lkM h k A) = _ := (if_pos c2582).trans (if_pos (by rw [iv_of g37]; exact Decidable.not_not.mp c2588))
                 show bMs _ _ k + sgn (byM rep (iv h 236 k) x (lkM h k A)) (iv h (227 + i) k) = _
                 rw [hD, hb]
                 congr 1
                 unfold sgn
                 rw [iv_of g65]
                 exact if_pos (Int32.not_le.mp c2666))
              | (have hb : byM rep (iv h 236 k) x (lkM h k A) = _ := (if_pos c2582).trans (if_pos (by rw [iv_of g37]; exact Decidable.not_not.mp c2588))
                 show bMs _ _ k + sgn (byM rep (iv h 236 k) x (lkM h k A)) (iv h (227 + i) k) = _
                 rw [hD, hb]
                 congr 1
                 unfold sgn
                 rw [iv_of g82]
                 exact (if_neg (Int32.not_lt.mpr c2666)).trans (if_pos (Int32.not_le.mp c2668)))
              | (have hb : byM rep (iv h 236 k) x (lkM h k A) = _ := (if_pos c2582).trans (if_pos (by rw [iv_of g37]; exact Decidable.not_not.mp c2588))
                 show bMs _ _ k + sgn (byM rep (iv h 236 k) x (lkM h k A)) (iv h (227 + i) k) = _
                 rw [hD, hb]
                 congr 1
                 unfold sgn
                 exact (if_neg (Int32.not_lt.mpr c2666)).trans (if_neg (Int32.not_lt.mpr c2668)))
      · obtain ⟨-, z⟩ := q2579
        cases z
theorem C_mar (n : Nat) (x hv rep : Int32) (h : List zC) (u : Nat) {i el A : Nat} {cnt : Int32} (hi : hv.toNatClampNeg = i) (i3 : i < 3) (hS : Stc h) (hL : gF h 225 1 = some (.ref el)) (hs : gF h 225 2 = some (.int cnt)) (hq : gF h el x.toNatClampNeg = some (.ref A)) : zL zrx zi n 168 0 [(0, .ref 213), (1, .int x), (2, .int hv), (3, .int rep)] [] h u (fun o h2 _ => h2 = h ∧ o = .inl (some (.int (bMs (fun f => iv h (227 + i) f) (fun f => byM rep (iv h 236 f) x (lkM h f A)) 4)))) := by
  refine zSp0 (pc' := 1) (st' := .int (0) :: _) vr_168_0 rfl rfl ?_
  refine zSistore (m := 2) (k := 4) vr_168_1 rfl rfl (fun x2698 e2698 => ?_)
  cases e2698
  show zL zrx zi _ 168 3 [(4, _), (0, _), (1, _), (2, _), (3, _)] [] _ _ _
  refine zSp0 (pc' := 4) (st' := .int (0) :: _) vr_168_3 rfl rfl ?_
  refine zSistore (m := 2) (k := 5) vr_168_4 rfl rfl (fun x2700 e2700 => ?_)
  cases e2700
  show zL zrx zi _ 168 6 [(5, _), (4, _), (0, _), (1, _), (2, _), (3, _)] [] _ _ _
  exact zL_pm _ _ _ [(5, _), (4, _), (0, _), (1, _), (2, _), (3, _), (6, _), (7, _)] _ _ _ _ _ ⟨(List.forall_mem_cons.mpr ⟨List.mem_cons_self, (List.forall_mem_cons.mpr ⟨(List.mem_cons_of_mem _ List.mem_cons_self), (List.forall_mem_cons.mpr ⟨(List.mem_cons_of_mem _ (List.mem_cons_of_mem _ List.mem_cons_self)), (List.forall_mem_cons.mpr ⟨(List.mem_cons_of_mem _ (List.mem_cons_of_mem _ (List.mem_cons_of_mem _ List.mem_cons_self))), (List.forall_mem_cons.mpr ⟨(List.mem_cons_of_mem _ (List.mem_cons_of_mem _ (List.mem_cons_of_mem _ (List.mem_cons_of_mem _ List.mem_cons_self)))), (List.forall_mem_cons.mpr ⟨(List.mem_cons_of_mem _ (List.mem_cons_of_mem _ (List.mem_cons_of_mem _ (List.mem_cons_of_mem _ (List.mem_cons_of_mem _ List.mem_cons_self))))), (fun _ h => absurd h List.not_mem_nil)⟩)⟩)⟩)⟩)⟩)⟩), show ([5, 4, 0, 1, 2, 3, 6, 7] : List Nat).Nodup by decide⟩ (C_mar_loop hi i3 hS hL hs hq _ 0 0 .null .null _ (by omega) rfl)
set_option maxRecDepth 20000 in
theorem C_hfo_loop {h : List zC} {x rep : Int32} {el A : Nat} {cnt : Int32} (hS : Stc h) (hL : gF h 225 1 = some (.ref el)) (hs : gF h 225 2 = some (.int cnt)) (hq : gF h el x.toNatClampNeg = some (.ref A)) : ∀ (n k : Nat) (r : Int32) (u : Nat), k ≤ 3 → hcF (fun i => bMs (fun f => iv h (227 + i) f) (fun f => byM rep (iv h 236 f) x (lkM h f A)) 4) k = r → zL zrx zi n 169 5 [(4, .int (Int32.ofNat k)), (3, .int r), (0, .ref 213), (1, .int x), (2, .int rep)] [] h u (fun o h2 _ => h2 = h ∧ o = .inl (some (.int (hcF (fun i => bMs (fun f => iv h (227 + i) f) (fun f => byM rep (iv h 236 f) x (lkM h f A)) 4) 3))))
  | 0, _, _, _ => fun _ _ => trivial
  | n + 1, k, r, u => fun hk hD => by
    have kk := (toNat_ofNat (m := k) (by omega))
    have z3 : (3 : Int32).toInt = 3 := rfl
    refine zLp vr_169_5 rfl rfl ?_
    refine zSp0 (pc' := 8) (st' := .int (3) :: _) vr_169_7 rfl rfl ?_
    refine zSb2 (f := fun x y => decide (y ≤ x)) (off := 28) (t := 36) vr_169_8 rfl rfl rfl (fun x2702 y2702 e2702 f2702 q2702 => ?_) (fun x2702 y2702 e2702 f2702 q2702 => ?_)
    · cases e2702
      cases f2702
      have c2702 := of_decide_eq_true q2702
      refine zSiload (m := 1) (k := 3) vr_169_36 rfl rfl rfl (fun x2703 e2703 => ?_)
      cases e2703
      refine zLiret vr_169_37 rfl (fun x2704 e2704 => ?_)
      cases e2704
      have e : k = 3 := by
        have y := c2702
        rw [i32_le, kk.2, z3] at y
        omega
      subst e
      rw [hD]
      exact ⟨rfl, rfl⟩
    · cases e2702
      cases f2702
      have c2702 := ndc q2702
      have k3 : k < 3 := by
        have y := c2702
        rw [i32_le, kk.2, z3] at y
        omega
      refine zSiload (m := 1) (k := 3) vr_169_11 rfl rfl rfl (fun x2705 e2705 => ?_)
      cases e2705
      refine zSaload (m := 1) (k := 0) vr_169_12 rfl rfl rfl ?_
      refine zSiload (m := 1) (k := 1) vr_169_13 rfl rfl rfl (fun x2707 e2707 => ?_)
      cases e2707
      refine zSiload (m := 2) (k := 4) vr_169_14 rfl rfl rfl (fun x2708 e2708 => ?_)
      cases e2708
      refine zSiload (m := 1) (k := 2) vr_169_16 rfl rfl rfl (fun x2709 e2709 => ?_)
      cases e2709
      refine zScall vr_169_17 rfl rfl rfl (fun m2710 _ => C_mar _ _ _ _ _ _ kk.1 k3 hS hL hs hq) (fun v2710 h2710 u2710 q2710 => ?_) (fun E2710 h2710 u2710 q2710 => ?_)
      · obtain ⟨eh2710, z2710⟩ := q2710
        replace eh2710 := eh2710.symm
        subst eh2710
        cases z2710
        show zL zrx zi _ 169 20 [(4, _), (3, _), (0, _), (1, _), (2, _)] [_, _] _ _ _
        refine zSb1 (f := fun x => decide (x ≤ 0)) (off := 7) (t := 27) vr_169_20 rfl rfl rfl (fun x2711 e2711 q2711 => ?_) (fun x2711 e2711 q2711 => ?_)
        · cases e2711
          have c2711 := of_decide_eq_true q2711
          refine zSp0 (pc' := 28) (st' := .int (0) :: _) vr_169_27 rfl rfl ?_
          refine zS2 (f := fun x y => .int (x + y)) vr_169_28 rfl rfl (fun x2713 y2713 e2713 f2713 => ?_)
          cases e2713
          cases f2713
          refine zSistore (m := 1) (k := 3) vr_169_29 rfl rfl (fun x2714 e2714 => ?_)
          cases e2714
          show zL zrx zi _ 169 30 [(3, _), (4, _), (0, _), (1, _), (2, _)] [] _ _ _
          refine zSiinc vr_169_30 rfl rfl (fun x2715 e2715 => ?_)
          cases e2715
          show zL zrx zi _ 169 33 [(4, _), (3, _), (0, _), (1, _), (2, _)] [] _ _ _
          refine zSgo (t := 5) vr_169_33 rfl rfl ?_
          rw [ofNat_succ]
          refine zL_pm _ _ _ [(4, _), (3, _), (0, _), (1, _), (2, _)] _ _ _ _ _ ⟨(List.forall_mem_cons.mpr ⟨List.mem_cons_self, (List.forall_mem_cons.mpr ⟨(List.mem_cons_of_mem _ List.mem_cons_self), (List.forall_mem_cons.mpr ⟨(List.mem_cons_of_mem _ (List.mem_cons_of_mem _ List.mem_cons_self)), (List.forall_mem_cons.mpr ⟨(List.mem_cons_of_mem _ (List.mem_cons_of_mem _ (List.mem_cons_of_mem _ List.mem_cons_self))), (List.forall_mem_cons.mpr ⟨(List.mem_cons_of_mem _ (List.mem_cons_of_mem _ (List.mem_cons_of_mem _ (List.mem_cons_of_mem _ List.mem_cons_self)))), (fun _ h => absurd h List.not_mem_nil)⟩)⟩)⟩)⟩)⟩), show ([4, 3, 0, 1, 2] : List Nat).Nodup by decide⟩ (C_hfo_loop hS hL hs hq n (k + 1) _ _ (by omega) ?_)
          first
            | exact (hcF_n (B := (fun i => bMs (fun f => iv h (227 + i) f) (fun f => byM rep (iv h 236 f) x (lkM h f A)) 4)) (k := k) (Int32.not_lt.mpr c2711)).trans (hD.trans (Int32.add_zero _).symm)
            | exact (hcF_y (B := (fun i => bMs (fun f => iv h (227 + i) f) (fun f => byM rep (iv h 236 f) x (lkM h f A)) 4)) (k := k) (Int32.not_le.mp c2711)).trans (by rw [hD])
        · cases e2711
          have c2711 := ndc q2711
          refine zSp0 (pc' := 24) (st' := .int (1) :: _) vr_169_23 rfl rfl ?_
          refine zSgo (t := 28) vr_169_24 rfl rfl ?_
          refine zS2 (f := fun x y => .int (x + y)) vr_169_28 rfl rfl (fun x2719 y2719 e2719 f2719 => ?_)
          cases e2719
          cases f2719
          refine zSistore (m := 1) (k := 3) vr_169_29 rfl rfl (fun x2720 e2720 => ?_)
          cases e2720
          show zL zrx zi _ 169 30 [(3, _), (4, _), (0, _), (1, _), (2, _)] [] _ _ _
          refine zSiinc vr_169_30 rfl rfl (fun x2721 e2721 => ?_)
          cases e2721
          show zL zrx zi _ 169 33 [(4, _), (3, _), (0, _), (1, _), (2, _)] [] _ _ _
          refine zSgo (t := 5) vr_169_33 rfl rfl ?_
          rw [ofNat_succ]
          refine zL_pm _ _ _ [(4, _), (3, _), (0, _), (1, _), (2, _)] _ _ _ _ _ ⟨(List.forall_mem_cons.mpr ⟨List.mem_cons_self, (List.forall_mem_cons.mpr ⟨(List.mem_cons_of_mem _ List.mem_cons_self), (List.forall_mem_cons.mpr ⟨(List.mem_cons_of_mem _ (List.mem_cons_of_mem _ List.mem_cons_self)), (List.forall_mem_cons.mpr ⟨(List.mem_cons_of_mem _ (List.mem_cons_of_mem _ (List.mem_cons_of_mem _ List.mem_cons_self))), (List.forall_mem_cons.mpr ⟨(List.mem_cons_of_mem _ (List.mem_cons_of_mem _ (List.mem_cons_of_mem _ (List.mem_cons_of_mem _ List.mem_cons_self)))), (fun _ h => absurd h List.not_mem_nil)⟩)⟩)⟩)⟩)⟩), show ([4, 3, 0, 1, 2] : List Nat).Nodup by decide⟩ (C_hfo_loop hS hL hs hq n (k + 1) _ _ (by omega) ?_)
          first
            | exact (hcF_n (B := (fun i => bMs (fun f => iv h (227 + i) f) (fun f => byM rep (iv h 236 f) x (lkM h f A)) 4)) (k := k) (Int32.not_lt.mpr c2711)).trans (hD.trans (Int32.add_zero _).symm)
            | exact (hcF_y (B := (fun i => bMs (fun f => iv h (227 + i) f) (fun f => byM rep (iv h 236 f) x (lkM h f A)) 4)) (k := k) (Int32.not_le.mp c2711)).trans (by rw [hD])
      · obtain ⟨-, z⟩ := q2710
        cases z
theorem C_hfo (n : Nat) (x rep : Int32) (h : List zC) (u : Nat) {el A : Nat} {cnt : Int32} (hS : Stc h) (hL : gF h 225 1 = some (.ref el)) (hs : gF h 225 2 = some (.int cnt)) (hq : gF h el x.toNatClampNeg = some (.ref A)) : zL zrx zi n 169 0 [(0, .ref 213), (1, .int x), (2, .int rep)] [] h u (fun o h2 _ => h2 = h ∧ o = .inl (some (.int (hcF (fun i => bMs (fun f => iv h (227 + i) f) (fun f => byM rep (iv h 236 f) x (lkM h f A)) 4) 3)))) := by
  refine zSp0 (pc' := 1) (st' := .int (0) :: _) vr_169_0 rfl rfl ?_
  refine zSistore (m := 1) (k := 3) vr_169_1 rfl rfl (fun x2724 e2724 => ?_)
  cases e2724
  show zL zrx zi _ 169 2 [(3, _), (0, _), (1, _), (2, _)] [] _ _ _
  refine zSp0 (pc' := 3) (st' := .int (0) :: _) vr_169_2 rfl rfl ?_
  refine zSistore (m := 2) (k := 4) vr_169_3 rfl rfl (fun x2726 e2726 => ?_)
  cases e2726
  show zL zrx zi _ 169 5 [(4, _), (3, _), (0, _), (1, _), (2, _)] [] _ _ _
  exact zL_pm _ _ _ [(4, _), (3, _), (0, _), (1, _), (2, _)] _ _ _ _ _ ⟨(List.forall_mem_cons.mpr ⟨List.mem_cons_self, (List.forall_mem_cons.mpr ⟨(List.mem_cons_of_mem _ List.mem_cons_self), (List.forall_mem_cons.mpr ⟨(List.mem_cons_of_mem _ (List.mem_cons_of_mem _ List.mem_cons_self)), (List.forall_mem_cons.mpr ⟨(List.mem_cons_of_mem _ (List.mem_cons_of_mem _ (List.mem_cons_of_mem _ List.mem_cons_self))), (List.forall_mem_cons.mpr ⟨(List.mem_cons_of_mem _ (List.mem_cons_of_mem _ (List.mem_cons_of_mem _ (List.mem_cons_of_mem _ List.mem_cons_self)))), (fun _ h => absurd h List.not_mem_nil)⟩)⟩)⟩)⟩)⟩), show ([4, 3, 0, 1, 2] : List Nat).Nodup by decide⟩ (C_hfo_loop hS hL hs hq _ 0 0 _ (by omega) rfl)
set_option maxRecDepth 20000 in
theorem C_als_loop {h : List zC} {i : Nat} {hv : Int32} (hS : Stc h) (hi : hv.toNatClampNeg = i) : ∀ (n k : Nat) (r : Int32) (u : Nat), k ≤ 4 → asC (fun f => iv h (173 + 3 * f) i) k = r → zL zrx zi n 49 4 [(3, .int (Int32.ofNat k)), (2, .int r), (0, .ref 169), (1, .int hv)] [] h u (fun o h2 _ => h2 = h ∧ o = .inl (some (.int (asC (fun f => iv h (173 + 3 * f) i) 4))))
  | 0, _, _, _ => fun _ _ => trivial
  | n + 1, k, r, u => fun hk hD => by
    have kk := (toNat_ofNat (m := k) (by omega))
    have z4 : (4 : Int32).toInt = 4 := rfl
    refine zLp vr_49_4 rfl rfl ?_
    refine zSp0 (pc' := 6) (st' := .int (4) :: _) vr_49_5 rfl rfl ?_
    refine zSb2 (f := fun x y => decide (y ≤ x)) (off := 23) (t := 29) vr_49_6 rfl rfl rfl (fun x2728 y2728 e2728 f2728 q2728 => ?_) (fun x2728 y2728 e2728 f2728 q2728 => ?_)
    · cases e2728
      cases f2728
      have c2728 := of_decide_eq_true q2728
      refine zSiload (m := 1) (k := 2) vr_49_29 rfl rfl rfl (fun x2729 e2729 => ?_)
      cases e2729
      refine zLiret vr_49_30 rfl (fun x2730 e2730 => ?_)
      cases e2730
      have e : k = 4 := by
        have y := c2728
        rw [i32_le, kk.2, z4] at y
        omega
      subst e
      rw [hD]
      exact ⟨rfl, rfl⟩
    · cases e2728
      cases f2728
      have c2728 := ndc q2728
      have k4 : k < 4 := by
        have y := c2728
        rw [i32_le, kk.2, z4] at y
        omega
      have hI : gF h 170 (Int32.ofNat k).toNatClampNeg = some (.ref (171 + 3 * k)) := by
        rw [kk.1]
        exact st_fac hS k4
      refine zSiload (m := 1) (k := 2) vr_49_9 rfl rfl rfl (fun x2731 e2731 => ?_)
      cases e2731
      refine zSaload (m := 1) (k := 0) vr_49_10 rfl rfl rfl ?_
      refine zLget vr_49_11 rfl (fun p2733 w2733 e2733 t2733 g2733 => ?_)
      cases e2733
      first | (rw [(st_169_0 hS)] at g2733; cases g2733) | (rw [hI] at g2733; cases g2733) | (rw [(st_fs hS k4)] at g2733; cases g2733) | skip
      refine zSiload (m := 1) (k := 3) vr_49_14 rfl rfl rfl (fun x2734 e2734 => ?_)
      cases e2734
      refine zLaald vr_49_15 rfl (fun p2735 x2735 w2735 e2735 f2735 c2735 t2735 g2735 => ?_)
      cases e2735
      cases f2735
      first | (rw [(st_169_0 hS)] at g2735; cases g2735) | (rw [hI] at g2735; cases g2735) | (rw [(st_fs hS k4)] at g2735; cases g2735) | skip
      refine zLget vr_49_16 rfl (fun p2736 w2736 e2736 t2736 g2736 => ?_)
      cases e2736
      first | (rw [(st_169_0 hS)] at g2736; cases g2736) | (rw [hI] at g2736; cases g2736) | (rw [(st_fs hS k4)] at g2736; cases g2736) | skip
      refine zSiload (m := 1) (k := 1) vr_49_19 rfl rfl rfl (fun x2737 e2737 => ?_)
      cases e2737
      refine zLiald vr_49_20 rfl (fun p2738 x2738 w2738 e2738 f2738 c2738 t2738 g2738 => ?_)
      cases e2738
      cases f2738
      first | (rw [(st_169_0 hS)] at g2738; cases g2738) | (rw [hI] at g2738; cases g2738) | (rw [(st_fs hS k4)] at g2738; cases g2738) | skip
      have g20 := g2738
      rw [hi] at g20
      refine zS2 (f := fun x y => .int (x + y)) vr_49_21 rfl rfl (fun x2739 y2739 e2739 f2739 => ?_)
      cases e2739
      cases f2739
      refine zSistore (m := 1) (k := 2) vr_49_22 rfl rfl (fun x2740 e2740 => ?_)
      cases e2740
      show zL zrx zi _ 49 23 [(2, _), (3, _), (0, _), (1, _)] [] _ _ _
      refine zSiinc vr_49_23 rfl rfl (fun x2741 e2741 => ?_)
      cases e2741
      show zL zrx zi _ 49 26 [(3, _), (2, _), (0, _), (1, _)] [] _ _ _
      refine zSgo (t := 4) vr_49_26 rfl rfl ?_
      rw [ofNat_succ]
      refine zL_pm _ _ _ [(3, _), (2, _), (0, _), (1, _)] _ _ _ _ _ ⟨(List.forall_mem_cons.mpr ⟨List.mem_cons_self, (List.forall_mem_cons.mpr ⟨(List.mem_cons_of_mem _ List.mem_cons_self), (List.forall_mem_cons.mpr ⟨(List.mem_cons_of_mem _ (List.mem_cons_of_mem _ List.mem_cons_self)), (List.forall_mem_cons.mpr ⟨(List.mem_cons_of_mem _ (List.mem_cons_of_mem _ (List.mem_cons_of_mem _ List.mem_cons_self))), (fun _ h => absurd h List.not_mem_nil)⟩)⟩)⟩)⟩), show ([3, 2, 0, 1] : List Nat).Nodup by decide⟩ (C_als_loop hS hi n (k + 1) _ _ (by omega) ?_)
      show asC _ k + iv h (173 + 3 * k) i = _
      rw [hD, iv_of g20]
theorem C_als (n : Nat)  (h : List zC) (u : Nat) {i : Nat} {hv : Int32} (hS : Stc h) (hi : hv.toNatClampNeg = i) : zL zrx zi n 49 0 [(0, .ref 169), (1, .int hv)] [] h u (fun o h2 _ => h2 = h ∧ o = .inl (some (.int (asC (fun f => iv h (173 + 3 * f) i) 4)))) := by
  refine zSp0 (pc' := 1) (st' := .int (0) :: _) vr_49_0 rfl rfl ?_
  refine zSistore (m := 1) (k := 2) vr_49_1 rfl rfl (fun x2744 e2744 => ?_)
  cases e2744
  show zL zrx zi _ 49 2 [(2, _), (0, _), (1, _)] [] _ _ _
  refine zSp0 (pc' := 3) (st' := .int (0) :: _) vr_49_2 rfl rfl ?_
  refine zSistore (m := 1) (k := 3) vr_49_3 rfl rfl (fun x2746 e2746 => ?_)
  cases e2746
  show zL zrx zi _ 49 4 [(3, _), (2, _), (0, _), (1, _)] [] _ _ _
  exact zL_pm _ _ _ [(3, _), (2, _), (0, _), (1, _)] _ _ _ _ _ ⟨(List.forall_mem_cons.mpr ⟨List.mem_cons_self, (List.forall_mem_cons.mpr ⟨(List.mem_cons_of_mem _ List.mem_cons_self), (List.forall_mem_cons.mpr ⟨(List.mem_cons_of_mem _ (List.mem_cons_of_mem _ List.mem_cons_self)), (List.forall_mem_cons.mpr ⟨(List.mem_cons_of_mem _ (List.mem_cons_of_mem _ (List.mem_cons_of_mem _ List.mem_cons_self))), (fun _ h => absurd h List.not_mem_nil)⟩)⟩)⟩)⟩), show ([3, 2, 0, 1] : List Nat).Nodup by decide⟩ (C_als_loop hS hi _ 0 0 _ (by omega) rfl)
theorem C_seats (n : Nat) (x f s : Int32) (h : List zC) (u : Nat) (hS : Stc h) : zL zrx zi n 66 0 [(0, .ref 16), (1, .int x), (2, .int f), (3, .int s)] [] h u (fun o h2 _ => match o with
  | .inl v => ((iN 3 x ∧ iN 4 f) ∧ rI 0 60 s) ∧ ∃ y : Int32, v = some (.int y) ∧ hPut h h2 (173 + 3 * f.toNatClampNeg) x.toNatClampNeg (.int s) ∧ y = asC (fun k => iv h2 (173 + 3 * k) x.toNatClampNeg) 4
  | .inr E => hExt h h2 ∧ ((E = 0 ∧ ¬ (iN 3 x ∧ iN 4 f)) ∨ (E = 1 ∧ (iN 3 x ∧ iN 4 f) ∧ ¬ rI 0 60 s))) := by
  refine zSiload (m := 1) (k := 1) vr_66_0 rfl rfl rfl (fun x2747 e2747 => ?_)
  cases e2747
  refine zSp0 (pc' := 2) (st' := .int (3) :: _) vr_66_1 rfl rfl ?_
  refine zScall vr_66_2 rfl rfl rfl (fun m2749 _ => C_num6 _ _ _ _ (m := 3) (by rfl)) (fun v2749 h2749 u2749 q2749 => ?_) (fun E2749 h2749 u2749 q2749 => ?_)
  · obtain ⟨eh2749, rfl, r1⟩ := q2749
    replace eh2749 := eh2749.symm
    subst eh2749
    show zL zrx zi _ 66 5 [(0, _), (1, _), (2, _), (3, _)] [] _ _ _
    refine zSiload (m := 1) (k := 2) vr_66_5 rfl rfl rfl (fun x2750 e2750 => ?_)
    cases e2750
    refine zSp0 (pc' := 7) (st' := .int (4) :: _) vr_66_6 rfl rfl ?_
    refine zScall vr_66_7 rfl rfl rfl (fun m2752 _ => C_num6 _ _ _ _ (m := 4) (by rfl)) (fun v2752 h2752 u2752 q2752 => ?_) (fun E2752 h2752 u2752 q2752 => ?_)
    · obtain ⟨eh2752, rfl, r2⟩ := q2752
      replace eh2752 := eh2752.symm
      subst eh2752
      show zL zrx zi _ 66 10 [(0, _), (1, _), (2, _), (3, _)] [] _ _ _
      refine zSiload (m := 1) (k := 3) vr_66_10 rfl rfl rfl (fun x2753 e2753 => ?_)
      cases e2753
      refine zSp0 (pc' := 12) (st' := .int (0) :: _) vr_66_11 rfl rfl ?_
      refine zSp0 (pc' := 14) (st' := .int (60) :: _) vr_66_12 rfl rfl ?_
      refine zScall vr_66_14 rfl rfl rfl (fun m2756 _ => C_val _ _ _ _ _ _) (fun v2756 h2756 u2756 q2756 => ?_) (fun E2756 h2756 u2756 q2756 => ?_)
      · obtain ⟨eh2756, rfl, r3⟩ := q2756
        replace eh2756 := eh2756.symm
        subst eh2756
        show zL zrx zi _ 66 17 [(0, _), (1, _), (2, _), (3, _)] [] _ _ _
        refine zSaload (m := 1) (k := 0) vr_66_17 rfl rfl rfl ?_
        refine zLget vr_66_18 rfl (fun p2758 w2758 e2758 t2758 g2758 => ?_)
        cases e2758
        first | (rw [(st_16_11 hS)] at g2758; cases g2758) | (rw [(st_169_0 hS)] at g2758; cases g2758) | (rw [(st_fac hS (iN4 r2))] at g2758; cases g2758) | (rw [(st_fs hS (iN4 r2))] at g2758; cases g2758) | skip
        refine zLget vr_66_21 rfl (fun p2759 w2759 e2759 t2759 g2759 => ?_)
        cases e2759
        first | (rw [(st_16_11 hS)] at g2759; cases g2759) | (rw [(st_169_0 hS)] at g2759; cases g2759) | (rw [(st_fac hS (iN4 r2))] at g2759; cases g2759) | (rw [(st_fs hS (iN4 r2))] at g2759; cases g2759) | skip
        refine zSiload (m := 1) (k := 2) vr_66_24 rfl rfl rfl (fun x2760 e2760 => ?_)
        cases e2760
        refine zLaald vr_66_25 rfl (fun p2761 x2761 w2761 e2761 f2761 c2761 t2761 g2761 => ?_)
        cases e2761
        cases f2761
        first | (rw [(st_16_11 hS)] at g2761; cases g2761) | (rw [(st_169_0 hS)] at g2761; cases g2761) | (rw [(st_fac hS (iN4 r2))] at g2761; cases g2761) | (rw [(st_fs hS (iN4 r2))] at g2761; cases g2761) | skip
        refine zLget vr_66_26 rfl (fun p2762 w2762 e2762 t2762 g2762 => ?_)
        cases e2762
        first | (rw [(st_16_11 hS)] at g2762; cases g2762) | (rw [(st_169_0 hS)] at g2762; cases g2762) | (rw [(st_fac hS (iN4 r2))] at g2762; cases g2762) | (rw [(st_fs hS (iN4 r2))] at g2762; cases g2762) | skip
        refine zSiload (m := 1) (k := 1) vr_66_29 rfl rfl rfl (fun x2763 e2763 => ?_)
        cases e2763
        refine zSiload (m := 1) (k := 3) vr_66_30 rfl rfl rfl (fun x2764 e2764 => ?_)
        cases e2764
        refine zLiast vr_66_31 rfl (fun p2765 x2765 z2765 k2765 e2765 f2765 d2765 c2765 t2765 g2765 => ?_)
        cases e2765
        cases f2765
        cases d2765
        have hS2 := hS.put g2765 (row_st (Or.inl (by have := iN4 r2; omega)))
        refine zSaload (m := 1) (k := 0) vr_66_32 rfl rfl rfl ?_
        refine zLget vr_66_33 rfl (fun p2767 w2767 e2767 t2767 g2767 => ?_)
        cases e2767
        first | (rw [(st_16_11 hS2)] at g2767; cases g2767) | skip
        refine zSiload (m := 1) (k := 1) vr_66_36 rfl rfl rfl (fun x2768 e2768 => ?_)
        cases e2768
        refine zScall vr_66_37 rfl rfl rfl (fun m2769 _ => C_als _ _ _ hS2 rfl) (fun v2769 h2769 u2769 q2769 => ?_) (fun E2769 h2769 u2769 q2769 => ?_)
        · obtain ⟨eh2769, z2769⟩ := q2769
          replace eh2769 := eh2769.symm
          subst eh2769
          cases z2769
          show zL zrx zi _ 66 40 [(0, _), (1, _), (2, _), (3, _)] [_] _ _ _
          refine zLiret vr_66_40 rfl (fun x2770 e2770 => ?_)
          cases e2770
          exact ⟨⟨⟨r1, r2⟩, r3⟩, _, rfl, g2765, rfl⟩
        · obtain ⟨-, z⟩ := q2769
          cases z
      · obtain ⟨rfl, q1, q2⟩ := q2756
        rw [zCat_no vh_66_14_1]
        exact ⟨q2, Or.inr ⟨rfl, ⟨r1, r2⟩, q1⟩⟩
    · obtain ⟨rfl, q1, q2⟩ := q2752
      rw [zCat_no vh_66_7_0]
      exact ⟨q2, Or.inl ⟨rfl, fun z => q1 z.2⟩⟩
  · obtain ⟨rfl, q1, q2⟩ := q2749
    rw [zCat_no vh_66_2_0]
    exact ⟨q2, Or.inl ⟨rfl, fun z => q1 z.1⟩⟩
theorem C_mood (n : Nat) (f m s : Int32) (h : List zC) (u : Nat) (hS : Stc h) : zL zrx zi n 67 0 [(0, .ref 16), (1, .int f), (2, .int m), (3, .int s)] [] h u (fun o h2 _ => match o with
  | .inl v => ((iN 4 f ∧ iN 4 m) ∧ rI (-5) 5 s) ∧ ∃ y : Int32, v = some (.int y) ∧ hPut h h2 (172 + 3 * f.toNatClampNeg) m.toNatClampNeg (.int s) ∧ y = iv h (172 + 3 * f.toNatClampNeg) m.toNatClampNeg
  | .inr E => hExt h h2 ∧ ((E = 0 ∧ ¬ (iN 4 f ∧ iN 4 m)) ∨ (E = 1 ∧ (iN 4 f ∧ iN 4 m) ∧ ¬ rI (-5) 5 s))) := by
  refine zSiload (m := 1) (k := 1) vr_67_0 rfl rfl rfl (fun x2771 e2771 => ?_)
  cases e2771
  refine zSp0 (pc' := 2) (st' := .int (4) :: _) vr_67_1 rfl rfl ?_
  refine zScall vr_67_2 rfl rfl rfl (fun m2773 _ => C_num6 _ _ _ _ (m := 4) (by rfl)) (fun v2773 h2773 u2773 q2773 => ?_) (fun E2773 h2773 u2773 q2773 => ?_)
  · obtain ⟨eh2773, rfl, r1⟩ := q2773
    replace eh2773 := eh2773.symm
    subst eh2773
    show zL zrx zi _ 67 5 [(0, _), (1, _), (2, _), (3, _)] [] _ _ _
    refine zSiload (m := 1) (k := 2) vr_67_5 rfl rfl rfl (fun x2774 e2774 => ?_)
    cases e2774
    refine zSp0 (pc' := 7) (st' := .int (4) :: _) vr_67_6 rfl rfl ?_
    refine zScall vr_67_7 rfl rfl rfl (fun m2776 _ => C_num6 _ _ _ _ (m := 4) (by rfl)) (fun v2776 h2776 u2776 q2776 => ?_) (fun E2776 h2776 u2776 q2776 => ?_)
    · obtain ⟨eh2776, rfl, r2⟩ := q2776
      replace eh2776 := eh2776.symm
      subst eh2776
      show zL zrx zi _ 67 10 [(0, _), (1, _), (2, _), (3, _)] [] _ _ _
      refine zSiload (m := 1) (k := 3) vr_67_10 rfl rfl rfl (fun x2777 e2777 => ?_)
      cases e2777
      refine zSp0 (pc' := 13) (st' := .int (-5) :: _) vr_67_11 rfl rfl ?_
      refine zSp0 (pc' := 14) (st' := .int (5) :: _) vr_67_13 rfl rfl ?_
      refine zScall vr_67_14 rfl rfl rfl (fun m2780 _ => C_val _ _ _ _ _ _) (fun v2780 h2780 u2780 q2780 => ?_) (fun E2780 h2780 u2780 q2780 => ?_)
      · obtain ⟨eh2780, rfl, r3⟩ := q2780
        replace eh2780 := eh2780.symm
        subst eh2780
        show zL zrx zi _ 67 17 [(0, _), (1, _), (2, _), (3, _)] [] _ _ _
        refine zSaload (m := 1) (k := 0) vr_67_17 rfl rfl rfl ?_
        refine zLget vr_67_18 rfl (fun p2782 w2782 e2782 t2782 g2782 => ?_)
        cases e2782
        first | (rw [(st_16_11 hS)] at g2782; cases g2782) | (rw [(st_169_0 hS)] at g2782; cases g2782) | (rw [(st_fac hS (iN4 r1))] at g2782; cases g2782) | (rw [(st_fm hS (iN4 r1))] at g2782; cases g2782) | skip
        refine zLget vr_67_21 rfl (fun p2783 w2783 e2783 t2783 g2783 => ?_)
        cases e2783
        first | (rw [(st_16_11 hS)] at g2783; cases g2783) | (rw [(st_169_0 hS)] at g2783; cases g2783) | (rw [(st_fac hS (iN4 r1))] at g2783; cases g2783) | (rw [(st_fm hS (iN4 r1))] at g2783; cases g2783) | skip
        refine zSiload (m := 1) (k := 1) vr_67_24 rfl rfl rfl (fun x2784 e2784 => ?_)
        cases e2784
        refine zLaald vr_67_25 rfl (fun p2785 x2785 w2785 e2785 f2785 c2785 t2785 g2785 => ?_)
        cases e2785
        cases f2785
        first | (rw [(st_16_11 hS)] at g2785; cases g2785) | (rw [(st_169_0 hS)] at g2785; cases g2785) | (rw [(st_fac hS (iN4 r1))] at g2785; cases g2785) | (rw [(st_fm hS (iN4 r1))] at g2785; cases g2785) | skip
        refine zLget vr_67_26 rfl (fun p2786 w2786 e2786 t2786 g2786 => ?_)
        cases e2786
        first | (rw [(st_16_11 hS)] at g2786; cases g2786) | (rw [(st_169_0 hS)] at g2786; cases g2786) | (rw [(st_fac hS (iN4 r1))] at g2786; cases g2786) | (rw [(st_fm hS (iN4 r1))] at g2786; cases g2786) | skip
        refine zSiload (m := 1) (k := 2) vr_67_29 rfl rfl rfl (fun x2787 e2787 => ?_)
        cases e2787
        refine zLiald vr_67_30 rfl (fun p2788 x2788 w2788 e2788 f2788 c2788 t2788 g2788 => ?_)
        cases e2788
        cases f2788
        first | (rw [(st_16_11 hS)] at g2788; cases g2788) | (rw [(st_169_0 hS)] at g2788; cases g2788) | (rw [(st_fac hS (iN4 r1))] at g2788; cases g2788) | (rw [(st_fm hS (iN4 r1))] at g2788; cases g2788) | skip
        refine zSistore (m := 2) (k := 4) vr_67_31 rfl rfl (fun x2789 e2789 => ?_)
        cases e2789
        show zL zrx zi _ 67 33 [(4, _), (0, _), (1, _), (2, _), (3, _)] [] _ _ _
        refine zSaload (m := 1) (k := 0) vr_67_33 rfl rfl rfl ?_
        refine zLget vr_67_34 rfl (fun p2791 w2791 e2791 t2791 g2791 => ?_)
        cases e2791
        first | (rw [(st_16_11 hS)] at g2791; cases g2791) | (rw [(st_169_0 hS)] at g2791; cases g2791) | (rw [(st_fac hS (iN4 r1))] at g2791; cases g2791) | (rw [(st_fm hS (iN4 r1))] at g2791; cases g2791) | skip
        refine zLget vr_67_37 rfl (fun p2792 w2792 e2792 t2792 g2792 => ?_)
        cases e2792
        first | (rw [(st_16_11 hS)] at g2792; cases g2792) | (rw [(st_169_0 hS)] at g2792; cases g2792) | (rw [(st_fac hS (iN4 r1))] at g2792; cases g2792) | (rw [(st_fm hS (iN4 r1))] at g2792; cases g2792) | skip
        refine zSiload (m := 1) (k := 1) vr_67_40 rfl rfl rfl (fun x2793 e2793 => ?_)
        cases e2793
        refine zLaald vr_67_41 rfl (fun p2794 x2794 w2794 e2794 f2794 c2794 t2794 g2794 => ?_)
        cases e2794
        cases f2794
        first | (rw [(st_16_11 hS)] at g2794; cases g2794) | (rw [(st_169_0 hS)] at g2794; cases g2794) | (rw [(st_fac hS (iN4 r1))] at g2794; cases g2794) | (rw [(st_fm hS (iN4 r1))] at g2794; cases g2794) | skip
        refine zLget vr_67_42 rfl (fun p2795 w2795 e2795 t2795 g2795 => ?_)
        cases e2795
        first | (rw [(st_16_11 hS)] at g2795; cases g2795) | (rw [(st_169_0 hS)] at g2795; cases g2795) | (rw [(st_fac hS (iN4 r1))] at g2795; cases g2795) | (rw [(st_fm hS (iN4 r1))] at g2795; cases g2795) | skip
        refine zSiload (m := 1) (k := 2) vr_67_45 rfl rfl rfl (fun x2796 e2796 => ?_)
        cases e2796
        refine zSiload (m := 1) (k := 3) vr_67_46 rfl rfl rfl (fun x2797 e2797 => ?_)
        cases e2797
        refine zLiast vr_67_47 rfl (fun p2798 x2798 z2798 k2798 e2798 f2798 d2798 c2798 t2798 g2798 => ?_)
        cases e2798
        cases f2798
        cases d2798
        refine zSiload (m := 2) (k := 4) vr_67_48 rfl rfl rfl (fun x2799 e2799 => ?_)
        cases e2799
        refine zLiret vr_67_50 rfl (fun x2800 e2800 => ?_)
        cases e2800
        exact ⟨⟨⟨r1, r2⟩, r3⟩, _, rfl, g2798, (iv_of g2788).symm⟩
      · obtain ⟨rfl, q1, q2⟩ := q2780
        rw [zCat_no vh_67_14_1]
        exact ⟨q2, Or.inr ⟨rfl, ⟨r1, r2⟩, q1⟩⟩
    · obtain ⟨rfl, q1, q2⟩ := q2776
      rw [zCat_no vh_67_7_0]
      exact ⟨q2, Or.inl ⟨rfl, fun z => q1 z.2⟩⟩
  · obtain ⟨rfl, q1, q2⟩ := q2773
    rw [zCat_no vh_67_2_0]
    exact ⟨q2, Or.inl ⟨rfl, fun z => q1 z.1⟩⟩
theorem C_taste (n : Nat) (f s : Int32) (h : List zC) (u : Nat) (hS : Stc h) : zL zrx zi n 68 0 [(0, .ref 16), (1, .int f), (2, .int s)] [] h u (fun o h2 _ => match o with
  | .inl v => ((iN 4 f) ∧ rI (-3) 3 s) ∧ ∃ y : Int32, v = some (.int y) ∧ hPut h h2 (171 + 3 * f.toNatClampNeg) 2 (.int s) ∧ y = iv h (171 + 3 * f.toNatClampNeg) 2
  | .inr E => hExt h h2 ∧ ((E = 0 ∧ ¬ (iN 4 f)) ∨ (E = 1 ∧ (iN 4 f) ∧ ¬ rI (-3) 3 s))) := by
  refine zSiload (m := 1) (k := 1) vr_68_0 rfl rfl rfl (fun x2801 e2801 => ?_)
  cases e2801
  refine zSp0 (pc' := 2) (st' := .int (4) :: _) vr_68_1 rfl rfl ?_
  refine zScall vr_68_2 rfl rfl rfl (fun m2803 _ => C_num6 _ _ _ _ (m := 4) (by rfl)) (fun v2803 h2803 u2803 q2803 => ?_) (fun E2803 h2803 u2803 q2803 => ?_)
  · obtain ⟨eh2803, rfl, r1⟩ := q2803
    replace eh2803 := eh2803.symm
    subst eh2803
    show zL zrx zi _ 68 5 [(0, _), (1, _), (2, _)] [] _ _ _
    refine zSiload (m := 1) (k := 2) vr_68_5 rfl rfl rfl (fun x2804 e2804 => ?_)
    cases e2804
    refine zSp0 (pc' := 8) (st' := .int (-3) :: _) vr_68_6 rfl rfl ?_
    refine zSp0 (pc' := 9) (st' := .int (3) :: _) vr_68_8 rfl rfl ?_
    refine zScall vr_68_9 rfl rfl rfl (fun m2807 _ => C_val _ _ _ _ _ _) (fun v2807 h2807 u2807 q2807 => ?_) (fun E2807 h2807 u2807 q2807 => ?_)
    · obtain ⟨eh2807, rfl, r3⟩ := q2807
      replace eh2807 := eh2807.symm
      subst eh2807
      show zL zrx zi _ 68 12 [(0, _), (1, _), (2, _)] [] _ _ _
      refine zSaload (m := 1) (k := 0) vr_68_12 rfl rfl rfl ?_
      refine zLget vr_68_13 rfl (fun p2809 w2809 e2809 t2809 g2809 => ?_)
      cases e2809
      first | (rw [(st_16_11 hS)] at g2809; cases g2809) | (rw [(st_169_0 hS)] at g2809; cases g2809) | (rw [(st_fac hS (iN4 r1))] at g2809; cases g2809) | skip
      refine zLget vr_68_16 rfl (fun p2810 w2810 e2810 t2810 g2810 => ?_)
      cases e2810
      first | (rw [(st_16_11 hS)] at g2810; cases g2810) | (rw [(st_169_0 hS)] at g2810; cases g2810) | (rw [(st_fac hS (iN4 r1))] at g2810; cases g2810) | skip
      refine zSiload (m := 1) (k := 1) vr_68_19 rfl rfl rfl (fun x2811 e2811 => ?_)
      cases e2811
      refine zLaald vr_68_20 rfl (fun p2812 x2812 w2812 e2812 f2812 c2812 t2812 g2812 => ?_)
      cases e2812
      cases f2812
      first | (rw [(st_16_11 hS)] at g2812; cases g2812) | (rw [(st_169_0 hS)] at g2812; cases g2812) | (rw [(st_fac hS (iN4 r1))] at g2812; cases g2812) | skip
      refine zLget vr_68_21 rfl (fun p2813 w2813 e2813 t2813 g2813 => ?_)
      cases e2813
      first | (rw [(st_16_11 hS)] at g2813; cases g2813) | (rw [(st_169_0 hS)] at g2813; cases g2813) | (rw [(st_fac hS (iN4 r1))] at g2813; cases g2813) | skip
      refine zSistore (m := 1) (k := 3) vr_68_24 rfl rfl (fun x2814 e2814 => ?_)
      cases e2814
      show zL zrx zi _ 68 25 [(3, _), (0, _), (1, _), (2, _)] [] _ _ _
      refine zSaload (m := 1) (k := 0) vr_68_25 rfl rfl rfl ?_
      refine zLget vr_68_26 rfl (fun p2816 w2816 e2816 t2816 g2816 => ?_)
      cases e2816
      first | (rw [(st_16_11 hS)] at g2816; cases g2816) | (rw [(st_169_0 hS)] at g2816; cases g2816) | (rw [(st_fac hS (iN4 r1))] at g2816; cases g2816) | skip
      refine zLget vr_68_29 rfl (fun p2817 w2817 e2817 t2817 g2817 => ?_)
      cases e2817
      first | (rw [(st_16_11 hS)] at g2817; cases g2817) | (rw [(st_169_0 hS)] at g2817; cases g2817) | (rw [(st_fac hS (iN4 r1))] at g2817; cases g2817) | skip
      refine zSiload (m := 1) (k := 1) vr_68_32 rfl rfl rfl (fun x2818 e2818 => ?_)
      cases e2818
      refine zLaald vr_68_33 rfl (fun p2819 x2819 w2819 e2819 f2819 c2819 t2819 g2819 => ?_)
      cases e2819
      cases f2819
      first | (rw [(st_16_11 hS)] at g2819; cases g2819) | (rw [(st_169_0 hS)] at g2819; cases g2819) | (rw [(st_fac hS (iN4 r1))] at g2819; cases g2819) | skip
      refine zSiload (m := 1) (k := 2) vr_68_34 rfl rfl rfl (fun x2820 e2820 => ?_)
      cases e2820
      refine zLput vr_68_35 rfl (fun p2821 k2821 e2821 t2821 g2821 => ?_)
      cases e2821
      refine zSiload (m := 1) (k := 3) vr_68_38 rfl rfl rfl (fun x2822 e2822 => ?_)
      cases e2822
      refine zLiret vr_68_39 rfl (fun x2823 e2823 => ?_)
      cases e2823
      exact ⟨⟨r1, r3⟩, _, rfl, g2821, (iv_of g2813).symm⟩
    · obtain ⟨rfl, q1, q2⟩ := q2807
      rw [zCat_no vh_68_9_1]
      exact ⟨q2, Or.inr ⟨rfl, r1, q1⟩⟩
  · obtain ⟨rfl, q1, q2⟩ := q2803
    rw [zCat_no vh_68_2_0]
    exact ⟨q2, Or.inl ⟨rfl, fun z => q1 z⟩⟩
abbrev Q_Lseats (x f s : Int32) (h : List zC) : zK := fun o h2 _ => ∃ k : Int32, o = .inl (some (.int k)) ∧
  ((k = 0 ∧ ((iN 3 x ∧ iN 4 f) ∧ rI 0 60 s) ∧ ∃ (h1 : List zC) (y : Int32), hPut h h1 (173 + 3 * f.toNatClampNeg) x.toNatClampNeg (.int s) ∧ y = asC (fun k => iv h1 (173 + 3 * k) x.toNatClampNeg) 4 ∧ hPut h1 h2 238 0 (.long y.toInt64)) ∨ (k = 1 ∧ ¬ (iN 3 x ∧ iN 4 f) ∧ hExt h h2) ∨ (k = 2 ∧ (iN 3 x ∧ iN 4 f) ∧ ¬ rI 0 60 s ∧ hExt h h2))
theorem C_Lseats (n : Nat) (x f s : Int32) (h : List zC) (u : Nat) (hS : Stc h) : zL zrx zi n 217 0 [(0, .ref 16), (1, .int x), (2, .int f), (3, .int s), (4, .ref 238)] [] h u (Q_Lseats x f s h) := by
  refine zSaload (m := 2) (k := 4) vr_217_0 rfl rfl rfl ?_
  refine zSaload (m := 1) (k := 0) vr_217_2 rfl rfl rfl ?_
  refine zSiload (m := 1) (k := 1) vr_217_3 rfl rfl rfl (fun x2826 e2826 => ?_)
  cases e2826
  refine zSiload (m := 1) (k := 2) vr_217_4 rfl rfl rfl (fun x2827 e2827 => ?_)
  cases e2827
  refine zSiload (m := 1) (k := 3) vr_217_5 rfl rfl rfl (fun x2828 e2828 => ?_)
  cases e2828
  refine zScall vr_217_6 rfl rfl rfl (fun m2829 _ => C_seats _ _ _ _ _ _ hS) (fun v2829 h2829 u2829 q2829 => ?_) (fun E2829 h2829 u2829 q2829 => ?_)
  · obtain ⟨k1, y2829, rfl, k2, k3⟩ := q2829
    show zL zrx zi _ 217 9 [(0, _), (1, _), (2, _), (3, _), (4, _)] [_, _] _ _ _
    refine zS1 (f := fun x => .long x.toInt64) vr_217_9 rfl rfl (fun x2830 e2830 => ?_)
    cases e2830
    refine zLput vr_217_10 rfl (fun p2831 k2831 e2831 t2831 g2831 => ?_)
    cases e2831
    have gP := g2831
    refine zSgo (t := 24) vr_217_13 rfl rfl ?_
    refine zSp0 (pc' := 25) (st' := .int (0) :: _) vr_217_24 rfl rfl ?_
    refine zLiret vr_217_25 rfl (fun x2834 e2834 => ?_)
    cases e2834
    exact ⟨_, rfl, Or.inl ⟨rfl, k1, _, _, k2, k3, gP⟩⟩
  · obtain ⟨q1, ⟨rfl, z⟩ | ⟨rfl, z⟩⟩ := q2829
    · rw [zCat_hit (k := 5) (m := 2) vh_217_6_0 vr_217_16 rfl (by decide)]
      show zL zrx zi _ 217 18 [(0, _), (1, _), (2, _), (3, _), (4, _)] [] _ _ _
      refine zSp0 (pc' := 19) (st' := .int (1) :: _) vr_217_18 rfl rfl ?_
      refine zLiret vr_217_19 rfl (fun x2836 e2836 => ?_)
      cases e2836
      exact ⟨_, rfl, Or.inr (Or.inl ⟨rfl, z, q1⟩)⟩
    · rw [zCat_hit (k := 5) (m := 2) vh_217_6_1 vr_217_20 rfl (by decide)]
      show zL zrx zi _ 217 22 [(0, _), (1, _), (2, _), (3, _), (4, _)] [] _ _ _
      refine zSp0 (pc' := 23) (st' := .int (2) :: _) vr_217_22 rfl rfl ?_
      refine zLiret vr_217_23 rfl (fun x2838 e2838 => ?_)
      cases e2838
      exact ⟨_, rfl, Or.inr (Or.inr ⟨rfl, z.1, z.2, q1⟩)⟩
abbrev Q_Lmood (f m s : Int32) (h : List zC) : zK := fun o h2 _ => ∃ k : Int32, o = .inl (some (.int k)) ∧
  ((k = 0 ∧ ((iN 4 f ∧ iN 4 m) ∧ rI (-5) 5 s) ∧ ∃ (h1 : List zC) (y : Int32), hPut h h1 (172 + 3 * f.toNatClampNeg) m.toNatClampNeg (.int s) ∧ y = iv h (172 + 3 * f.toNatClampNeg) m.toNatClampNeg ∧ hPut h1 h2 238 0 (.long y.toInt64)) ∨ (k = 1 ∧ ¬ (iN 4 f ∧ iN 4 m) ∧ hExt h h2) ∨ (k = 2 ∧ (iN 4 f ∧ iN 4 m) ∧ ¬ rI (-5) 5 s ∧ hExt h h2))
theorem C_Lmood (n : Nat) (f m s : Int32) (h : List zC) (u : Nat) (hS : Stc h) : zL zrx zi n 218 0 [(0, .ref 16), (1, .int f), (2, .int m), (3, .int s), (4, .ref 238)] [] h u (Q_Lmood f m s h) := by
  refine zSaload (m := 2) (k := 4) vr_218_0 rfl rfl rfl ?_
  refine zSaload (m := 1) (k := 0) vr_218_2 rfl rfl rfl ?_
  refine zSiload (m := 1) (k := 1) vr_218_3 rfl rfl rfl (fun x2841 e2841 => ?_)
  cases e2841
  refine zSiload (m := 1) (k := 2) vr_218_4 rfl rfl rfl (fun x2842 e2842 => ?_)
  cases e2842
  refine zSiload (m := 1) (k := 3) vr_218_5 rfl rfl rfl (fun x2843 e2843 => ?_)
  cases e2843
  refine zScall vr_218_6 rfl rfl rfl (fun m2844 _ => C_mood _ _ _ _ _ _ hS) (fun v2844 h2844 u2844 q2844 => ?_) (fun E2844 h2844 u2844 q2844 => ?_)
  · obtain ⟨k1, y2844, rfl, k2, k3⟩ := q2844
    show zL zrx zi _ 218 9 [(0, _), (1, _), (2, _), (3, _), (4, _)] [_, _] _ _ _
    refine zS1 (f := fun x => .long x.toInt64) vr_218_9 rfl rfl (fun x2845 e2845 => ?_)
    cases e2845
    refine zLput vr_218_10 rfl (fun p2846 k2846 e2846 t2846 g2846 => ?_)
    cases e2846
    have gP := g2846
    refine zSgo (t := 24) vr_218_13 rfl rfl ?_
    refine zSp0 (pc' := 25) (st' := .int (0) :: _) vr_218_24 rfl rfl ?_
    refine zLiret vr_218_25 rfl (fun x2849 e2849 => ?_)
    cases e2849
    exact ⟨_, rfl, Or.inl ⟨rfl, k1, _, _, k2, k3, gP⟩⟩
  · obtain ⟨q1, ⟨rfl, z⟩ | ⟨rfl, z⟩⟩ := q2844
    · rw [zCat_hit (k := 5) (m := 2) vh_218_6_0 vr_218_16 rfl (by decide)]
      show zL zrx zi _ 218 18 [(0, _), (1, _), (2, _), (3, _), (4, _)] [] _ _ _
      refine zSp0 (pc' := 19) (st' := .int (1) :: _) vr_218_18 rfl rfl ?_
      refine zLiret vr_218_19 rfl (fun x2851 e2851 => ?_)
      cases e2851
      exact ⟨_, rfl, Or.inr (Or.inl ⟨rfl, z, q1⟩)⟩
    · rw [zCat_hit (k := 5) (m := 2) vh_218_6_1 vr_218_20 rfl (by decide)]
      show zL zrx zi _ 218 22 [(0, _), (1, _), (2, _), (3, _), (4, _)] [] _ _ _
      refine zSp0 (pc' := 23) (st' := .int (2) :: _) vr_218_22 rfl rfl ?_
      refine zLiret vr_218_23 rfl (fun x2853 e2853 => ?_)
      cases e2853
      exact ⟨_, rfl, Or.inr (Or.inr ⟨rfl, z.1, z.2, q1⟩)⟩
abbrev Q_Ltaste (f s : Int32) (h : List zC) : zK := fun o h2 _ => ∃ k : Int32, o = .inl (some (.int k)) ∧
  ((k = 0 ∧ ((iN 4 f) ∧ rI (-3) 3 s) ∧ ∃ (h1 : List zC) (y : Int32), hPut h h1 (171 + 3 * f.toNatClampNeg) 2 (.int s) ∧ y = iv h (171 + 3 * f.toNatClampNeg) 2 ∧ hPut h1 h2 238 0 (.long y.toInt64)) ∨ (k = 1 ∧ ¬ (iN 4 f) ∧ hExt h h2) ∨ (k = 2 ∧ (iN 4 f) ∧ ¬ rI (-3) 3 s ∧ hExt h h2))
theorem C_Ltaste (n : Nat) (f s : Int32) (h : List zC) (u : Nat) (hS : Stc h) : zL zrx zi n 219 0 [(0, .ref 16), (1, .int f), (2, .int s), (3, .ref 238)] [] h u (Q_Ltaste f s h) := by
  refine zSaload (m := 1) (k := 3) vr_219_0 rfl rfl rfl ?_
  refine zSaload (m := 1) (k := 0) vr_219_1 rfl rfl rfl ?_
  refine zSiload (m := 1) (k := 1) vr_219_2 rfl rfl rfl (fun x2856 e2856 => ?_)
  cases e2856
  refine zSiload (m := 1) (k := 2) vr_219_3 rfl rfl rfl (fun x2857 e2857 => ?_)
  cases e2857
  refine zScall vr_219_4 rfl rfl rfl (fun m2858 _ => C_taste _ _ _ _ _ hS) (fun v2858 h2858 u2858 q2858 => ?_) (fun E2858 h2858 u2858 q2858 => ?_)
  · obtain ⟨k1, y2858, rfl, k2, k3⟩ := q2858
    show zL zrx zi _ 219 7 [(0, _), (1, _), (2, _), (3, _)] [_, _] _ _ _
    refine zS1 (f := fun x => .long x.toInt64) vr_219_7 rfl rfl (fun x2859 e2859 => ?_)
    cases e2859
    refine zLput vr_219_8 rfl (fun p2860 k2860 e2860 t2860 g2860 => ?_)
    cases e2860
    have gP := g2860
    refine zSgo (t := 22) vr_219_11 rfl rfl ?_
    refine zSp0 (pc' := 23) (st' := .int (0) :: _) vr_219_22 rfl rfl ?_
    refine zLiret vr_219_23 rfl (fun x2863 e2863 => ?_)
    cases e2863
    exact ⟨_, rfl, Or.inl ⟨rfl, k1, _, _, k2, k3, gP⟩⟩
  · obtain ⟨q1, ⟨rfl, z⟩ | ⟨rfl, z⟩⟩ := q2858
    · rw [zCat_hit (k := 4) (m := 2) vh_219_4_0 vr_219_14 rfl (by decide)]
      show zL zrx zi _ 219 16 [(0, _), (1, _), (2, _), (3, _)] [] _ _ _
      refine zSp0 (pc' := 17) (st' := .int (1) :: _) vr_219_16 rfl rfl ?_
      refine zLiret vr_219_17 rfl (fun x2865 e2865 => ?_)
      cases e2865
      exact ⟨_, rfl, Or.inr (Or.inl ⟨rfl, z, q1⟩)⟩
    · rw [zCat_hit (k := 4) (m := 2) vh_219_4_1 vr_219_18 rfl (by decide)]
      show zL zrx zi _ 219 20 [(0, _), (1, _), (2, _), (3, _)] [] _ _ _
      refine zSp0 (pc' := 21) (st' := .int (2) :: _) vr_219_20 rfl rfl ?_
      refine zLiret vr_219_21 rfl (fun x2867 e2867 => ?_)
      cases e2867
      exact ⟨_, rfl, Or.inr (Or.inr ⟨rfl, z.1, z.2, q1⟩)⟩
abbrev Q_mseats (x f s : Int32) (h : List zC) : zK := fun o h2 _ => ∃ (y : Int32) (h0 : List zC), o = .inl (some (.int y)) ∧ hPut h h0 213 0 (.int 0) ∧
  ((((iN 3 x ∧ iN 4 f) ∧ rI 0 60 s) ∧ hPut h0 h2 (227 + x.toNatClampNeg) f.toNatClampNeg (.int s) ∧ y = asC (fun k => iv h2 (227 + x.toNatClampNeg) k) 4) ∨ (¬ (iN 3 x ∧ iN 4 f) ∧ hPut h0 h2 213 0 (.int 1)) ∨ ((iN 3 x ∧ iN 4 f) ∧ ¬ rI 0 60 s ∧ hPut h0 h2 213 0 (.int 2)))
theorem C_mseats (n : Nat) (x f s : Int32) (h : List zC) (u : Nat) (hS : Stc h) : zL zrx zi n 163 0 [(0, .ref 213), (1, .int x), (2, .int f), (3, .int s)] [] h u (Q_mseats x f s h) := by
  refine zSaload (m := 1) (k := 0) vr_163_0 rfl rfl rfl ?_
  refine zSp0 (pc' := 2) (st' := .int (0) :: _) vr_163_1 rfl rfl ?_
  refine zLput vr_163_2 rfl (fun p2870 k2870 e2870 t2870 g2870 => ?_)
  cases e2870
  have t0 := g2870
  have hS0 := hS.thr t0
  refine zSiload (m := 1) (k := 1) vr_163_5 rfl rfl rfl (fun x2871 e2871 => ?_)
  cases e2871
  refine zSp0 (pc' := 7) (st' := .int (0) :: _) vr_163_6 rfl rfl ?_
  refine zSp0 (pc' := 8) (st' := .int (2) :: _) vr_163_7 rfl rfl ?_
  refine zScall vr_163_8 rfl rfl rfl (fun m2874 _ => C_in _ _ _ _ _ _) (fun v2874 h2874 u2874 q2874 => ?_) (fun E2874 h2874 u2874 q2874 => ?_)
  · obtain ⟨eh2874, z2874⟩ := q2874
    replace eh2874 := eh2874.symm
    subst eh2874
    cases z2874
    show zL zrx zi _ 163 11 [(0, _), (1, _), (2, _), (3, _)] [_] _ _ _
    refine zSb1 (f := fun x => decide (x = 0)) (off := 12) (t := 23) vr_163_11 rfl rfl rfl (fun x2875 e2875 q2875 => ?_) (fun x2875 e2875 q2875 => ?_)
    · cases e2875
      refine zSaload (m := 1) (k := 0) vr_163_23 rfl rfl rfl ?_
      refine zSp0 (pc' := 25) (st' := .int (1) :: _) vr_163_24 rfl rfl ?_
      refine zScall vr_163_25 rfl rfl rfl (fun m2878 _ => C_no _ _ _ _ _) (fun v2878 h2878 u2878 q2878 => ?_) (fun E2878 h2878 u2878 q2878 => ?_)
      · obtain ⟨gn2878, z2878⟩ := q2878
        cases z2878
        show zL zrx zi _ 163 28 [(0, _), (1, _), (2, _), (3, _)] [_] _ _ _
        refine zLiret vr_163_28 rfl (fun x2879 e2879 => ?_)
        cases e2879
        first
          | exact ⟨_, _, rfl, t0, Or.inr (Or.inl ⟨fun z => in_n (x := f) (hi := 3) (m := 4) (by decide) (by simpa using q2866) z.2, gn2878⟩)⟩
          | exact ⟨_, _, rfl, t0, Or.inr (Or.inl ⟨fun z => in_n (x := x) (hi := 2) (m := 3) (by decide) (of_decide_eq_true q2875) z.1, gn2878⟩)⟩
      · obtain ⟨-, z⟩ := q2878
        cases z
    · cases e2875
      have r1 : iN 3 x := in_y (x := x) (hi := 2) (m := 3) (by decide) (by simpa using q2875)
      refine zSiload (m := 1) (k := 2) vr_163_14 rfl rfl rfl (fun x2880 e2880 => ?_)
      cases e2880
      refine zSp0 (pc' := 16) (st' := .int (0) :: _) vr_163_15 rfl rfl ?_
      refine zSp0 (pc' := 17) (st' := .int (3) :: _) vr_163_16 rfl rfl ?_
      refine zScall vr_163_17 rfl rfl rfl (fun m2883 _ => C_in _ _ _ _ _ _) (fun v2883 h2883 u2883 q2883 => ?_) (fun E2883 h2883 u2883 q2883 => ?_)
      · obtain ⟨eh2883, z2883⟩ := q2883
        replace eh2883 := eh2883.symm
        subst eh2883
        cases z2883
        show zL zrx zi _ 163 20 [(0, _), (1, _), (2, _), (3, _)] [_] _ _ _
        refine zSb1 (f := fun x => decide (¬ x = 0)) (off := 9) (t := 29) vr_163_20 rfl rfl rfl (fun x2884 e2884 q2884 => ?_) (fun x2884 e2884 q2884 => ?_)
        · cases e2884
          have r2 : iN 4 f := in_y (x := f) (hi := 3) (m := 4) (by decide) (of_decide_eq_true q2884)
          refine zSiload (m := 1) (k := 3) vr_163_29 rfl rfl rfl (fun x2885 e2885 => ?_)
          cases e2885
          refine zSp0 (pc' := 31) (st' := .int (0) :: _) vr_163_30 rfl rfl ?_
          refine zSp0 (pc' := 33) (st' := .int (60) :: _) vr_163_31 rfl rfl ?_
          refine zScall vr_163_33 rfl rfl rfl (fun m2888 _ => C_in _ _ _ _ _ _) (fun v2888 h2888 u2888 q2888 => ?_) (fun E2888 h2888 u2888 q2888 => ?_)
          · obtain ⟨eh2888, z2888⟩ := q2888
            replace eh2888 := eh2888.symm
            subst eh2888
            cases z2888
            show zL zrx zi _ 163 36 [(0, _), (1, _), (2, _), (3, _)] [_] _ _ _
            refine zSb1 (f := fun x => decide (¬ x = 0)) (off := 9) (t := 45) vr_163_36 rfl rfl rfl (fun x2889 e2889 q2889 => ?_) (fun x2889 e2889 q2889 => ?_)
            · cases e2889
              refine zSaload (m := 1) (k := 0) vr_163_45 rfl rfl rfl ?_
              refine zLget vr_163_46 rfl (fun p2891 w2891 e2891 t2891 g2891 => ?_)
              cases e2891
              first | (rw [(st_213_11 hS0)] at g2891; cases g2891) | (rw [(st_hs hS0 (iN3 r1))] at g2891; cases g2891) | skip
              refine zSiload (m := 1) (k := 1) vr_163_49 rfl rfl rfl (fun x2892 e2892 => ?_)
              cases e2892
              refine zLaald vr_163_50 rfl (fun p2893 x2893 w2893 e2893 f2893 c2893 t2893 g2893 => ?_)
              cases e2893
              cases f2893
              first | (rw [(st_213_11 hS0)] at g2893; cases g2893) | (rw [(st_hs hS0 (iN3 r1))] at g2893; cases g2893) | skip
              refine zSiload (m := 1) (k := 2) vr_163_51 rfl rfl rfl (fun x2894 e2894 => ?_)
              cases e2894
              refine zSiload (m := 1) (k := 3) vr_163_52 rfl rfl rfl (fun x2895 e2895 => ?_)
              cases e2895
              refine zLiast vr_163_53 rfl (fun p2896 x2896 z2896 k2896 e2896 f2896 d2896 c2896 t2896 g2896 => ?_)
              cases e2896
              cases f2896
              cases d2896
              have hS1 := hS0.put g2896 (row_st (Or.inr (Or.inl (by have := iN3 r1; omega))))
              refine zSaload (m := 1) (k := 0) vr_163_54 rfl rfl rfl ?_
              refine zLget vr_163_55 rfl (fun p2898 w2898 e2898 t2898 g2898 => ?_)
              cases e2898
              first | (rw [(st_213_11 hS1)] at g2898; cases g2898) | (rw [(st_hs hS1 (iN3 r1))] at g2898; cases g2898) | skip
              refine zSiload (m := 1) (k := 1) vr_163_58 rfl rfl rfl (fun x2899 e2899 => ?_)
              cases e2899
              refine zLaald vr_163_59 rfl (fun p2900 x2900 w2900 e2900 f2900 c2900 t2900 g2900 => ?_)
              cases e2900
              cases f2900
              first | (rw [(st_213_11 hS1)] at g2900; cases g2900) | (rw [(st_hs hS1 (iN3 r1))] at g2900; cases g2900) | skip
              refine zSp0 (pc' := 61) (st' := .int (0) :: _) vr_163_60 rfl rfl ?_
              refine zLiald vr_163_61 rfl (fun p2902 x2902 w2902 e2902 f2902 c2902 t2902 g2902 => ?_)
              cases e2902
              cases f2902
              first | (rw [(st_213_11 hS1)] at g2902; cases g2902) | (rw [(st_hs hS1 (iN3 r1))] at g2902; cases g2902) | skip
              refine zSaload (m := 1) (k := 0) vr_163_62 rfl rfl rfl ?_
              refine zLget vr_163_63 rfl (fun p2904 w2904 e2904 t2904 g2904 => ?_)
              cases e2904
              first | (rw [(st_213_11 hS1)] at g2904; cases g2904) | (rw [(st_hs hS1 (iN3 r1))] at g2904; cases g2904) | skip
              refine zSiload (m := 1) (k := 1) vr_163_66 rfl rfl rfl (fun x2905 e2905 => ?_)
              cases e2905
              refine zLaald vr_163_67 rfl (fun p2906 x2906 w2906 e2906 f2906 c2906 t2906 g2906 => ?_)
              cases e2906
              cases f2906
              first | (rw [(st_213_11 hS1)] at g2906; cases g2906) | (rw [(st_hs hS1 (iN3 r1))] at g2906; cases g2906) | skip
              refine zSp0 (pc' := 69) (st' := .int (1) :: _) vr_163_68 rfl rfl ?_
              refine zLiald vr_163_69 rfl (fun p2908 x2908 w2908 e2908 f2908 c2908 t2908 g2908 => ?_)
              cases e2908
              cases f2908
              first | (rw [(st_213_11 hS1)] at g2908; cases g2908) | (rw [(st_hs hS1 (iN3 r1))] at g2908; cases g2908) | skip
              refine zS2 (f := fun x y => .int (x + y)) vr_163_70 rfl rfl (fun x2909 y2909 e2909 f2909 => ?_)
              cases e2909
              cases f2909
              refine zSaload (m := 1) (k := 0) vr_163_71 rfl rfl rfl ?_
              refine zLget vr_163_72 rfl (fun p2911 w2911 e2911 t2911 g2911 => ?_)
              cases e2911
              first | (rw [(st_213_11 hS1)] at g2911; cases g2911) | (rw [(st_hs hS1 (iN3 r1))] at g2911; cases g2911) | skip
              refine zSiload (m := 1) (k := 1) vr_163_75 rfl rfl rfl (fun x2912 e2912 => ?_)
              cases e2912
              refine zLaald vr_163_76 rfl (fun p2913 x2913 w2913 e2913 f2913 c2913 t2913 g2913 => ?_)
              cases e2913
              cases f2913
              first | (rw [(st_213_11 hS1)] at g2913; cases g2913) | (rw [(st_hs hS1 (iN3 r1))] at g2913; cases g2913) | skip
              refine zSp0 (pc' := 78) (st' := .int (2) :: _) vr_163_77 rfl rfl ?_
              refine zLiald vr_163_78 rfl (fun p2915 x2915 w2915 e2915 f2915 c2915 t2915 g2915 => ?_)
              cases e2915
              cases f2915
              first | (rw [(st_213_11 hS1)] at g2915; cases g2915) | (rw [(st_hs hS1 (iN3 r1))] at g2915; cases g2915) | skip
              refine zS2 (f := fun x y => .int (x + y)) vr_163_79 rfl rfl (fun x2916 y2916 e2916 f2916 => ?_)
              cases e2916
              cases f2916
              refine zSaload (m := 1) (k := 0) vr_163_80 rfl rfl rfl ?_
              refine zLget vr_163_81 rfl (fun p2918 w2918 e2918 t2918 g2918 => ?_)
              cases e2918
              first | (rw [(st_213_11 hS1)] at g2918; cases g2918) | (rw [(st_hs hS1 (iN3 r1))] at g2918; cases g2918) | skip
              refine zSiload (m := 1) (k := 1) vr_163_84 rfl rfl rfl (fun x2919 e2919 => ?_)
              cases e2919
              refine zLaald vr_163_85 rfl (fun p2920 x2920 w2920 e2920 f2920 c2920 t2920 g2920 => ?_)
              cases e2920
              cases f2920
              first | (rw [(st_213_11 hS1)] at g2920; cases g2920) | (rw [(st_hs hS1 (iN3 r1))] at g2920; cases g2920) | skip
              refine zSp0 (pc' := 87) (st' := .int (3) :: _) vr_163_86 rfl rfl ?_
              refine zLiald vr_163_87 rfl (fun p2922 x2922 w2922 e2922 f2922 c2922 t2922 g2922 => ?_)
              cases e2922
              cases f2922
              first | (rw [(st_213_11 hS1)] at g2922; cases g2922) | (rw [(st_hs hS1 (iN3 r1))] at g2922; cases g2922) | skip
              refine zS2 (f := fun x y => .int (x + y)) vr_163_88 rfl rfl (fun x2923 y2923 e2923 f2923 => ?_)
              cases e2923
              cases f2923
              refine zLiret vr_163_89 rfl (fun x2924 e2924 => ?_)
              cases e2924
              refine ⟨_, _, rfl, t0, Or.inl ⟨⟨⟨r1, r2⟩, inB_y (of_decide_eq_true q2889)⟩, g2896, ?_⟩⟩
              rw [asC4, ← iv_of g2902, ← iv_of g2908, ← iv_of g2915, ← iv_of g2922]
              rfl
            · cases e2889
              refine zSaload (m := 1) (k := 0) vr_163_39 rfl rfl rfl ?_
              refine zSp0 (pc' := 41) (st' := .int (2) :: _) vr_163_40 rfl rfl ?_
              refine zScall vr_163_41 rfl rfl rfl (fun m2927 _ => C_no _ _ _ _ _) (fun v2927 h2927 u2927 q2927 => ?_) (fun E2927 h2927 u2927 q2927 => ?_)
              · obtain ⟨gn2927, z2927⟩ := q2927
                cases z2927
                show zL zrx zi _ 163 44 [(0, _), (1, _), (2, _), (3, _)] [_] _ _ _
                refine zLiret vr_163_44 rfl (fun x2928 e2928 => ?_)
                cases e2928
                exact ⟨_, _, rfl, t0, Or.inr (Or.inr ⟨⟨r1, r2⟩, fun z => inB_n (by simpa using q2889) z, gn2927⟩)⟩
              · obtain ⟨-, z⟩ := q2927
                cases z
          · obtain ⟨-, z⟩ := q2888
            cases z
        · cases e2884
          refine zSaload (m := 1) (k := 0) vr_163_23 rfl rfl rfl ?_
          refine zSp0 (pc' := 25) (st' := .int (1) :: _) vr_163_24 rfl rfl ?_
          refine zScall vr_163_25 rfl rfl rfl (fun m2931 _ => C_no _ _ _ _ _) (fun v2931 h2931 u2931 q2931 => ?_) (fun E2931 h2931 u2931 q2931 => ?_)
          · obtain ⟨gn2931, z2931⟩ := q2931
            cases z2931
            show zL zrx zi _ 163 28 [(0, _), (1, _), (2, _), (3, _)] [_] _ _ _
            refine zLiret vr_163_28 rfl (fun x2932 e2932 => ?_)
            cases e2932
            first
              | exact ⟨_, _, rfl, t0, Or.inr (Or.inl ⟨fun z => in_n (x := f) (hi := 3) (m := 4) (by decide) (by simpa using q2884) z.2, gn2931⟩)⟩
              | exact ⟨_, _, rfl, t0, Or.inr (Or.inl ⟨fun z => in_n (x := x) (hi := 2) (m := 3) (by decide) (of_decide_eq_true q2875) z.1, gn2931⟩)⟩
          · obtain ⟨-, z⟩ := q2931
            cases z
      · obtain ⟨-, z⟩ := q2883
        cases z
  · obtain ⟨-, z⟩ := q2874
    cases z
abbrev Q_mmood (f m s : Int32) (h : List zC) : zK := fun o h2 _ => ∃ (y : Int32) (h0 : List zC), o = .inl (some (.int y)) ∧ hPut h h0 213 0 (.int 0) ∧
  ((((iN 4 f ∧ iN 4 m) ∧ rI (-5) 5 s) ∧ hPut h0 h2 (231 + f.toNatClampNeg) m.toNatClampNeg (.int s) ∧ y = iv h0 (231 + f.toNatClampNeg) m.toNatClampNeg) ∨ (¬ (iN 4 f ∧ iN 4 m) ∧ hPut h0 h2 213 0 (.int 1)) ∨ ((iN 4 f ∧ iN 4 m) ∧ ¬ rI (-5) 5 s ∧ hPut h0 h2 213 0 (.int 2)))
theorem C_mmood (n : Nat) (f m s : Int32) (h : List zC) (u : Nat) (hS : Stc h) : zL zrx zi n 164 0 [(0, .ref 213), (1, .int f), (2, .int m), (3, .int s)] [] h u (Q_mmood f m s h) := by
  refine zSaload (m := 1) (k := 0) vr_164_0 rfl rfl rfl ?_
  refine zSp0 (pc' := 2) (st' := .int (0) :: _) vr_164_1 rfl rfl ?_
  refine zLput vr_164_2 rfl (fun p2935 k2935 e2935 t2935 g2935 => ?_)
  cases e2935
  have t0 := g2935
  have hS0 := hS.thr t0
  refine zSiload (m := 1) (k := 1) vr_164_5 rfl rfl rfl (fun x2936 e2936 => ?_)
  cases e2936
  refine zSp0 (pc' := 7) (st' := .int (0) :: _) vr_164_6 rfl rfl ?_
  refine zSp0 (pc' := 8) (st' := .int (3) :: _) vr_164_7 rfl rfl ?_
  refine zScall vr_164_8 rfl rfl rfl (fun m2939 _ => C_in _ _ _ _ _ _) (fun v2939 h2939 u2939 q2939 => ?_) (fun E2939 h2939 u2939 q2939 => ?_)
  · obtain ⟨eh2939, z2939⟩ := q2939
    replace eh2939 := eh2939.symm
    subst eh2939
    cases z2939
    show zL zrx zi _ 164 11 [(0, _), (1, _), (2, _), (3, _)] [_] _ _ _
    refine zSb1 (f := fun x => decide (x = 0)) (off := 12) (t := 23) vr_164_11 rfl rfl rfl (fun x2940 e2940 q2940 => ?_) (fun x2940 e2940 q2940 => ?_)
    · cases e2940
      refine zSaload (m := 1) (k := 0) vr_164_23 rfl rfl rfl ?_
      refine zSp0 (pc' := 25) (st' := .int (1) :: _) vr_164_24 rfl rfl ?_
      refine zScall vr_164_25 rfl rfl rfl (fun m2943 _ => C_no _ _ _ _ _) (fun v2943 h2943 u2943 q2943 => ?_) (fun E2943 h2943 u2943 q2943 => ?_)
      · obtain ⟨gn2943, z2943⟩ := q2943
        cases z2943
        show zL zrx zi _ 164 28 [(0, _), (1, _), (2, _), (3, _)] [_] _ _ _
        refine zLiret vr_164_28 rfl (fun x2944 e2944 => ?_)
        cases e2944
        first
          | exact ⟨_, _, rfl, t0, Or.inr (Or.inl ⟨fun z => in_n (x := m) (hi := 3) (m := 4) (by decide) (by simpa using q2884) z.2, gn2943⟩)⟩
          | exact ⟨_, _, rfl, t0, Or.inr (Or.inl ⟨fun z => in_n (x := f) (hi := 3) (m := 4) (by decide) (of_decide_eq_true q2940) z.1, gn2943⟩)⟩
      · obtain ⟨-, z⟩ := q2943
        cases z
    · cases e2940
      have r1 : iN 4 f := in_y (x := f) (hi := 3) (m := 4) (by decide) (by simpa using q2940)
      refine zSiload (m := 1) (k := 2) vr_164_14 rfl rfl rfl (fun x2945 e2945 => ?_)
      cases e2945
      refine zSp0 (pc' := 16) (st' := .int (0) :: _) vr_164_15 rfl rfl ?_
      refine zSp0 (pc' := 17) (st' := .int (3) :: _) vr_164_16 rfl rfl ?_
      refine zScall vr_164_17 rfl rfl rfl (fun m2948 _ => C_in _ _ _ _ _ _) (fun v2948 h2948 u2948 q2948 => ?_) (fun E2948 h2948 u2948 q2948 => ?_)
      · obtain ⟨eh2948, z2948⟩ := q2948
        replace eh2948 := eh2948.symm
        subst eh2948
        cases z2948
        show zL zrx zi _ 164 20 [(0, _), (1, _), (2, _), (3, _)] [_] _ _ _
        refine zSb1 (f := fun x => decide (¬ x = 0)) (off := 9) (t := 29) vr_164_20 rfl rfl rfl (fun x2949 e2949 q2949 => ?_) (fun x2949 e2949 q2949 => ?_)
        · cases e2949
          have r2 : iN 4 m := in_y (x := m) (hi := 3) (m := 4) (by decide) (of_decide_eq_true q2949)
          refine zSiload (m := 1) (k := 3) vr_164_29 rfl rfl rfl (fun x2950 e2950 => ?_)
          cases e2950
          refine zSp0 (pc' := 32) (st' := .int (-5) :: _) vr_164_30 rfl rfl ?_
          refine zSp0 (pc' := 33) (st' := .int (5) :: _) vr_164_32 rfl rfl ?_
          refine zScall vr_164_33 rfl rfl rfl (fun m2953 _ => C_in _ _ _ _ _ _) (fun v2953 h2953 u2953 q2953 => ?_) (fun E2953 h2953 u2953 q2953 => ?_)
          · obtain ⟨eh2953, z2953⟩ := q2953
            replace eh2953 := eh2953.symm
            subst eh2953
            cases z2953
            show zL zrx zi _ 164 36 [(0, _), (1, _), (2, _), (3, _)] [_] _ _ _
            refine zSb1 (f := fun x => decide (¬ x = 0)) (off := 9) (t := 45) vr_164_36 rfl rfl rfl (fun x2954 e2954 q2954 => ?_) (fun x2954 e2954 q2954 => ?_)
            · cases e2954
              refine zSaload (m := 1) (k := 0) vr_164_45 rfl rfl rfl ?_
              refine zLget vr_164_46 rfl (fun p2956 w2956 e2956 t2956 g2956 => ?_)
              cases e2956
              first | (rw [(st_213_12 hS0)] at g2956; cases g2956) | (rw [(st_mr hS0 (iN4 r1))] at g2956; cases g2956) | skip
              refine zSiload (m := 1) (k := 1) vr_164_49 rfl rfl rfl (fun x2957 e2957 => ?_)
              cases e2957
              refine zLaald vr_164_50 rfl (fun p2958 x2958 w2958 e2958 f2958 c2958 t2958 g2958 => ?_)
              cases e2958
              cases f2958
              first | (rw [(st_213_12 hS0)] at g2958; cases g2958) | (rw [(st_mr hS0 (iN4 r1))] at g2958; cases g2958) | skip
              refine zSiload (m := 1) (k := 2) vr_164_51 rfl rfl rfl (fun x2959 e2959 => ?_)
              cases e2959
              refine zLiald vr_164_52 rfl (fun p2960 x2960 w2960 e2960 f2960 c2960 t2960 g2960 => ?_)
              cases e2960
              cases f2960
              first | (rw [(st_213_12 hS0)] at g2960; cases g2960) | (rw [(st_mr hS0 (iN4 r1))] at g2960; cases g2960) | skip
              refine zSistore (m := 2) (k := 4) vr_164_53 rfl rfl (fun x2961 e2961 => ?_)
              cases e2961
              show zL zrx zi _ 164 55 [(4, _), (0, _), (1, _), (2, _), (3, _)] [] _ _ _
              refine zSaload (m := 1) (k := 0) vr_164_55 rfl rfl rfl ?_
              refine zLget vr_164_56 rfl (fun p2963 w2963 e2963 t2963 g2963 => ?_)
              cases e2963
              first | (rw [(st_213_12 hS0)] at g2963; cases g2963) | (rw [(st_mr hS0 (iN4 r1))] at g2963; cases g2963) | skip
              refine zSiload (m := 1) (k := 1) vr_164_59 rfl rfl rfl (fun x2964 e2964 => ?_)
              cases e2964
              refine zLaald vr_164_60 rfl (fun p2965 x2965 w2965 e2965 f2965 c2965 t2965 g2965 => ?_)
              cases e2965
              cases f2965
              first | (rw [(st_213_12 hS0)] at g2965; cases g2965) | (rw [(st_mr hS0 (iN4 r1))] at g2965; cases g2965) | skip
              refine zSiload (m := 1) (k := 2) vr_164_61 rfl rfl rfl (fun x2966 e2966 => ?_)
              cases e2966
              refine zSiload (m := 1) (k := 3) vr_164_62 rfl rfl rfl (fun x2967 e2967 => ?_)
              cases e2967
              refine zLiast vr_164_63 rfl (fun p2968 x2968 z2968 k2968 e2968 f2968 d2968 c2968 t2968 g2968 => ?_)
              cases e2968
              cases f2968
              cases d2968
              refine zSiload (m := 2) (k := 4) vr_164_64 rfl rfl rfl (fun x2969 e2969 => ?_)
              cases e2969
              refine zLiret vr_164_66 rfl (fun x2970 e2970 => ?_)
              cases e2970
              exact ⟨_, _, rfl, t0, Or.inl ⟨⟨⟨r1, r2⟩, inB_y (of_decide_eq_true q2954)⟩, g2968, (iv_of g2960).symm⟩⟩
            · cases e2954
              refine zSaload (m := 1) (k := 0) vr_164_39 rfl rfl rfl ?_
              refine zSp0 (pc' := 41) (st' := .int (2) :: _) vr_164_40 rfl rfl ?_
              refine zScall vr_164_41 rfl rfl rfl (fun m2973 _ => C_no _ _ _ _ _) (fun v2973 h2973 u2973 q2973 => ?_) (fun E2973 h2973 u2973 q2973 => ?_)
              · obtain ⟨gn2973, z2973⟩ := q2973
                cases z2973
                show zL zrx zi _ 164 44 [(0, _), (1, _), (2, _), (3, _)] [_] _ _ _
                refine zLiret vr_164_44 rfl (fun x2974 e2974 => ?_)
                cases e2974
                exact ⟨_, _, rfl, t0, Or.inr (Or.inr ⟨⟨r1, r2⟩, fun z => inB_n (by simpa using q2954) z, gn2973⟩)⟩
              · obtain ⟨-, z⟩ := q2973
                cases z
          · obtain ⟨-, z⟩ := q2953
            cases z
        · cases e2949
          refine zSaload (m := 1) (k := 0) vr_164_23 rfl rfl rfl ?_
          refine zSp0 (pc' := 25) (st' := .int (1) :: _) vr_164_24 rfl rfl ?_
          refine zScall vr_164_25 rfl rfl rfl (fun m2977 _ => C_no _ _ _ _ _) (fun v2977 h2977 u2977 q2977 => ?_) (fun E2977 h2977 u2977 q2977 => ?_)
          · obtain ⟨gn2977, z2977⟩ := q2977
            cases z2977
            show zL zrx zi _ 164 28 [(0, _), (1, _), (2, _), (3, _)] [_] _ _ _
            refine zLiret vr_164_28 rfl (fun x2978 e2978 => ?_)
            cases e2978
            first
              | exact ⟨_, _, rfl, t0, Or.inr (Or.inl ⟨fun z => in_n (x := m) (hi := 3) (m := 4) (by decide) (by simpa using q2949) z.2, gn2977⟩)⟩
              | exact ⟨_, _, rfl, t0, Or.inr (Or.inl ⟨fun z => in_n (x := f) (hi := 3) (m := 4) (by decide) (of_decide_eq_true q2940) z.1, gn2977⟩)⟩
          · obtain ⟨-, z⟩ := q2977
            cases z
      · obtain ⟨-, z⟩ := q2948
        cases z
  · obtain ⟨-, z⟩ := q2939
    cases z
abbrev Q_mtaste (f s : Int32) (h : List zC) : zK := fun o h2 _ => ∃ (y : Int32) (h0 : List zC), o = .inl (some (.int y)) ∧ hPut h h0 213 0 (.int 0) ∧
  ((((iN 4 f) ∧ rI (-3) 3 s) ∧ hPut h0 h2 235 f.toNatClampNeg (.int s) ∧ y = iv h0 235 f.toNatClampNeg) ∨ (¬ (iN 4 f) ∧ hPut h0 h2 213 0 (.int 1)) ∨ ((iN 4 f) ∧ ¬ rI (-3) 3 s ∧ hPut h0 h2 213 0 (.int 2)))
theorem C_mtaste (n : Nat) (f s : Int32) (h : List zC) (u : Nat) (hS : Stc h) : zL zrx zi n 165 0 [(0, .ref 213), (1, .int f), (2, .int s)] [] h u (Q_mtaste f s h) := by
  refine zSaload (m := 1) (k := 0) vr_165_0 rfl rfl rfl ?_
  refine zSp0 (pc' := 2) (st' := .int (0) :: _) vr_165_1 rfl rfl ?_
  refine zLput vr_165_2 rfl (fun p2981 k2981 e2981 t2981 g2981 => ?_)
  cases e2981
  have t0 := g2981
  have hS0 := hS.thr t0
  refine zSiload (m := 1) (k := 1) vr_165_5 rfl rfl rfl (fun x2982 e2982 => ?_)
  cases e2982
  refine zSp0 (pc' := 7) (st' := .int (0) :: _) vr_165_6 rfl rfl ?_
  refine zSp0 (pc' := 8) (st' := .int (3) :: _) vr_165_7 rfl rfl ?_
  refine zScall vr_165_8 rfl rfl rfl (fun m2985 _ => C_in _ _ _ _ _ _) (fun v2985 h2985 u2985 q2985 => ?_) (fun E2985 h2985 u2985 q2985 => ?_)
  · obtain ⟨eh2985, z2985⟩ := q2985
    replace eh2985 := eh2985.symm
    subst eh2985
    cases z2985
    show zL zrx zi _ 165 11 [(0, _), (1, _), (2, _)] [_] _ _ _
    refine zSb1 (f := fun x => decide (¬ x = 0)) (off := 9) (t := 20) vr_165_11 rfl rfl rfl (fun x2986 e2986 q2986 => ?_) (fun x2986 e2986 q2986 => ?_)
    · cases e2986
      have r1 : iN 4 f := in_y (x := f) (hi := 3) (m := 4) (by decide) (of_decide_eq_true q2986)
      refine zSiload (m := 1) (k := 2) vr_165_20 rfl rfl rfl (fun x2987 e2987 => ?_)
      cases e2987
      refine zSp0 (pc' := 23) (st' := .int (-3) :: _) vr_165_21 rfl rfl ?_
      refine zSp0 (pc' := 24) (st' := .int (3) :: _) vr_165_23 rfl rfl ?_
      refine zScall vr_165_24 rfl rfl rfl (fun m2990 _ => C_in _ _ _ _ _ _) (fun v2990 h2990 u2990 q2990 => ?_) (fun E2990 h2990 u2990 q2990 => ?_)
      · obtain ⟨eh2990, z2990⟩ := q2990
        replace eh2990 := eh2990.symm
        subst eh2990
        cases z2990
        show zL zrx zi _ 165 27 [(0, _), (1, _), (2, _)] [_] _ _ _
        refine zSb1 (f := fun x => decide (¬ x = 0)) (off := 9) (t := 36) vr_165_27 rfl rfl rfl (fun x2991 e2991 q2991 => ?_) (fun x2991 e2991 q2991 => ?_)
        · cases e2991
          refine zSaload (m := 1) (k := 0) vr_165_36 rfl rfl rfl ?_
          refine zLget vr_165_37 rfl (fun p2993 w2993 e2993 t2993 g2993 => ?_)
          cases e2993
          first | (rw [(st_213_13 hS0)] at g2993; cases g2993) | skip
          refine zSiload (m := 1) (k := 1) vr_165_40 rfl rfl rfl (fun x2994 e2994 => ?_)
          cases e2994
          refine zLiald vr_165_41 rfl (fun p2995 x2995 w2995 e2995 f2995 c2995 t2995 g2995 => ?_)
          cases e2995
          cases f2995
          first | (rw [(st_213_13 hS0)] at g2995; cases g2995) | skip
          refine zSistore (m := 1) (k := 3) vr_165_42 rfl rfl (fun x2996 e2996 => ?_)
          cases e2996
          show zL zrx zi _ 165 43 [(3, _), (0, _), (1, _), (2, _)] [] _ _ _
          refine zSaload (m := 1) (k := 0) vr_165_43 rfl rfl rfl ?_
          refine zLget vr_165_44 rfl (fun p2998 w2998 e2998 t2998 g2998 => ?_)
          cases e2998
          first | (rw [(st_213_13 hS0)] at g2998; cases g2998) | skip
          refine zSiload (m := 1) (k := 1) vr_165_47 rfl rfl rfl (fun x2999 e2999 => ?_)
          cases e2999
          refine zSiload (m := 1) (k := 2) vr_165_48 rfl rfl rfl (fun x3000 e3000 => ?_)
          cases e3000
          refine zLiast vr_165_49 rfl (fun p3001 x3001 z3001 k3001 e3001 f3001 d3001 c3001 t3001 g3001 => ?_)
          cases e3001
          cases f3001
          cases d3001
          refine zSiload (m := 1) (k := 3) vr_165_50 rfl rfl rfl (fun x3002 e3002 => ?_)
          cases e3002
          refine zLiret vr_165_51 rfl (fun x3003 e3003 => ?_)
          cases e3003
          exact ⟨_, _, rfl, t0, Or.inl ⟨⟨r1, inB_y (of_decide_eq_true q2991)⟩, g3001, (iv_of g2995).symm⟩⟩
        · cases e2991
          refine zSaload (m := 1) (k := 0) vr_165_30 rfl rfl rfl ?_
          refine zSp0 (pc' := 32) (st' := .int (2) :: _) vr_165_31 rfl rfl ?_
          refine zScall vr_165_32 rfl rfl rfl (fun m3006 _ => C_no _ _ _ _ _) (fun v3006 h3006 u3006 q3006 => ?_) (fun E3006 h3006 u3006 q3006 => ?_)
          · obtain ⟨gn3006, z3006⟩ := q3006
            cases z3006
            show zL zrx zi _ 165 35 [(0, _), (1, _), (2, _)] [_] _ _ _
            refine zLiret vr_165_35 rfl (fun x3007 e3007 => ?_)
            cases e3007
            exact ⟨_, _, rfl, t0, Or.inr (Or.inr ⟨r1, fun z => inB_n (by simpa using q2991) z, gn3006⟩)⟩
          · obtain ⟨-, z⟩ := q3006
            cases z
      · obtain ⟨-, z⟩ := q2990
        cases z
    · cases e2986
      refine zSaload (m := 1) (k := 0) vr_165_14 rfl rfl rfl ?_
      refine zSp0 (pc' := 16) (st' := .int (1) :: _) vr_165_15 rfl rfl ?_
      refine zScall vr_165_16 rfl rfl rfl (fun m3010 _ => C_no _ _ _ _ _) (fun v3010 h3010 u3010 q3010 => ?_) (fun E3010 h3010 u3010 q3010 => ?_)
      · obtain ⟨gn3010, z3010⟩ := q3010
        cases z3010
        show zL zrx zi _ 165 19 [(0, _), (1, _), (2, _)] [_] _ _ _
        refine zLiret vr_165_19 rfl (fun x3011 e3011 => ?_)
        cases e3011
        exact ⟨_, _, rfl, t0, Or.inr (Or.inl ⟨fun z => in_n (x := f) (hi := 3) (m := 4) (by decide) (by simpa using q2986) z, gn3010⟩)⟩
      · obtain ⟨-, z⟩ := q3010
        cases z
  · obtain ⟨-, z⟩ := q2985
    cases z

/-! ===== values: all, 0 ===== -/
theorem vr_3_0 : zrx 3 0 = some (.aload_n 0, 0, 0) := by decide +kernel
theorem vr_3_1 : zrx 3 1 = some (.getfield 28, 4, 8) := by decide +kernel
theorem vr_3_4 : zrx 3 4 = some (.iconst 2, 0, 0) := by decide +kernel
theorem vr_3_5 : zrx 3 5 = some (.if_icmp .lt 5, 0, 0) := by decide +kernel
theorem vr_3_8 : zrx 3 8 = some (.iconst 0, 0, 0) := by decide +kernel
theorem vr_3_9 : zrx 3 9 = some (.ireturn, 0, 0) := by decide +kernel
theorem vr_3_10 : zrx 3 10 = some (.aload_n 0, 0, 0) := by decide +kernel
theorem vr_3_11 : zrx 3 11 = some (.getfield 21, 4, 9) := by decide +kernel
theorem vr_3_14 : zrx 3 14 = some (.aload_n 0, 0, 0) := by decide +kernel
theorem vr_3_15 : zrx 3 15 = some (.getfield 28, 4, 8) := by decide +kernel
theorem vr_3_18 : zrx 3 18 = some (.iload_n 1, 0, 0) := by decide +kernel
theorem vr_3_19 : zrx 3 19 = some (.iastore, 0, 0) := by decide +kernel
theorem vr_3_20 : zrx 3 20 = some (.aload_n 0, 0, 0) := by decide +kernel
theorem vr_3_21 : zrx 3 21 = some (.getfield 25, 4, 10) := by decide +kernel
theorem vr_3_24 : zrx 3 24 = some (.aload_n 0, 0, 0) := by decide +kernel
theorem vr_3_25 : zrx 3 25 = some (.getfield 28, 4, 8) := by decide +kernel
theorem vr_3_28 : zrx 3 28 = some (.iload_n 2, 0, 0) := by decide +kernel
theorem vr_3_29 : zrx 3 29 = some (.iastore, 0, 0) := by decide +kernel
theorem vr_3_30 : zrx 3 30 = some (.aload_n 0, 0, 0) := by decide +kernel
theorem vr_3_31 : zrx 3 31 = some (.dup, 0, 0) := by decide +kernel
theorem vr_3_32 : zrx 3 32 = some (.getfield 28, 4, 8) := by decide +kernel
theorem vr_3_35 : zrx 3 35 = some (.iconst 1, 0, 0) := by decide +kernel
theorem vr_3_36 : zrx 3 36 = some (.iadd, 0, 0) := by decide +kernel
theorem vr_3_37 : zrx 3 37 = some (.putfield 28, 4, 8) := by decide +kernel
theorem vr_3_40 : zrx 3 40 = some (.iload_n 1, 0, 0) := by decide +kernel
theorem vr_3_41 : zrx 3 41 = some (.bipush 60, 0, 0) := by decide +kernel
theorem vr_3_43 : zrx 3 43 = some (.if_icmp .ne 20, 0, 0) := by decide +kernel
theorem vr_3_46 : zrx 3 46 = some (.aload_n 0, 0, 0) := by decide +kernel
theorem vr_3_47 : zrx 3 47 = some (.aload_n 0, 0, 0) := by decide +kernel
theorem vr_3_48 : zrx 3 48 = some (.getfield 15, 4, 5) := by decide +kernel
theorem vr_3_51 : zrx 3 51 = some (.iload_n 2, 0, 0) := by decide +kernel
theorem vr_3_52 : zrx 3 52 = some (.iconst 1, 0, 0) := by decide +kernel
theorem vr_3_53 : zrx 3 53 = some (.isub, 0, 0) := by decide +kernel
theorem vr_3_54 : zrx 3 54 = some (.invokestatic 31, 262, 0) := by decide +kernel
theorem vr_3_57 : zrx 3 57 = some (.putfield 15, 4, 5) := by decide +kernel
theorem vr_3_60 : zrx 3 60 = some (.goto 17, 0, 0) := by decide +kernel
theorem vr_3_63 : zrx 3 63 = some (.aload_n 0, 0, 0) := by decide +kernel
theorem vr_3_64 : zrx 3 64 = some (.aload_n 0, 0, 0) := by decide +kernel
theorem vr_3_65 : zrx 3 65 = some (.getfield 9, 4, 4) := by decide +kernel
theorem vr_3_68 : zrx 3 68 = some (.iload_n 2, 0, 0) := by decide +kernel
theorem vr_3_69 : zrx 3 69 = some (.iconst 1, 0, 0) := by decide +kernel
theorem vr_3_70 : zrx 3 70 = some (.iadd, 0, 0) := by decide +kernel
theorem vr_3_71 : zrx 3 71 = some (.invokestatic 37, 261, 0) := by decide +kernel
theorem vr_3_74 : zrx 3 74 = some (.putfield 9, 4, 4) := by decide +kernel
theorem vr_3_77 : zrx 3 77 = some (.iconst 1, 0, 0) := by decide +kernel
theorem vr_3_78 : zrx 3 78 = some (.ireturn, 0, 0) := by decide +kernel
theorem vr_26_0 : zrx 26 0 = some (.aload_n 0, 0, 0) := by decide +kernel
theorem vr_26_1 : zrx 26 1 = some (.iconst 0, 0, 0) := by decide +kernel
theorem vr_26_2 : zrx 26 2 = some (.putfield 15, 8, 2) := by decide +kernel
theorem vr_26_5 : zrx 26 5 = some (.aload_n 0, 0, 0) := by decide +kernel
theorem vr_26_6 : zrx 26 6 = some (.aload_n 1, 0, 0) := by decide +kernel
theorem vr_26_7 : zrx 26 7 = some (.invokevirtual 19, 27, 90) := by decide +kernel
theorem vr_26_10 : zrx 26 10 = some (.ifCond .eq 49, 0, 0) := by decide +kernel
theorem vr_26_13 : zrx 26 13 = some (.aload_n 0, 0, 0) := by decide +kernel
theorem vr_26_14 : zrx 26 14 = some (.aload_n 1, 0, 0) := by decide +kernel
theorem vr_26_15 : zrx 26 15 = some (.invokevirtual 23, 28, 90) := by decide +kernel
theorem vr_26_18 : zrx 26 18 = some (.ifCond .eq 41, 0, 0) := by decide +kernel
theorem vr_26_21 : zrx 26 21 = some (.aload_n 0, 0, 0) := by decide +kernel
theorem vr_26_22 : zrx 26 22 = some (.aload_n 1, 0, 0) := by decide +kernel
theorem vr_26_23 : zrx 26 23 = some (.invokevirtual 26, 29, 90) := by decide +kernel
theorem vr_26_26 : zrx 26 26 = some (.ifCond .eq 33, 0, 0) := by decide +kernel
theorem vr_26_29 : zrx 26 29 = some (.aload_n 0, 0, 0) := by decide +kernel
theorem vr_26_30 : zrx 26 30 = some (.aload_n 1, 0, 0) := by decide +kernel
theorem vr_26_31 : zrx 26 31 = some (.iload_n 2, 0, 0) := by decide +kernel
theorem vr_26_32 : zrx 26 32 = some (.invokevirtual 29, 31, 90) := by decide +kernel
theorem vr_26_35 : zrx 26 35 = some (.ifCond .eq 24, 0, 0) := by decide +kernel
theorem vr_26_38 : zrx 26 38 = some (.aload_n 0, 0, 0) := by decide +kernel
theorem vr_26_39 : zrx 26 39 = some (.aload_n 1, 0, 0) := by decide +kernel
theorem vr_26_40 : zrx 26 40 = some (.iload_n 2, 0, 0) := by decide +kernel
theorem vr_26_41 : zrx 26 41 = some (.invokevirtual 33, 32, 90) := by decide +kernel
theorem vr_26_44 : zrx 26 44 = some (.ifCond .eq 15, 0, 0) := by decide +kernel
theorem vr_26_47 : zrx 26 47 = some (.aload_n 0, 0, 0) := by decide +kernel
theorem vr_26_48 : zrx 26 48 = some (.invokevirtual 36, 33, 90) := by decide +kernel
theorem vr_26_51 : zrx 26 51 = some (.iconst (-1), 0, 0) := by decide +kernel
theorem vr_26_52 : zrx 26 52 = some (.if_icmp .ne 7, 0, 0) := by decide +kernel
theorem vr_26_55 : zrx 26 55 = some (.iconst 1, 0, 0) := by decide +kernel
theorem vr_26_56 : zrx 26 56 = some (.goto 4, 0, 0) := by decide +kernel
theorem vr_26_59 : zrx 26 59 = some (.iconst 0, 0, 0) := by decide +kernel
theorem vr_26_60 : zrx 26 60 = some (.ireturn, 0, 0) := by decide +kernel
theorem vr_27_0 : zrx 27 0 = some (.aload_n 0, 0, 0) := by decide +kernel
theorem vr_27_1 : zrx 27 1 = some (.bipush 109, 0, 0) := by decide +kernel
theorem vr_27_3 : zrx 27 3 = some (.invokevirtual 40, 34, 90) := by decide +kernel
theorem vr_27_6 : zrx 27 6 = some (.ifCond .ne 5, 0, 0) := by decide +kernel
theorem vr_27_9 : zrx 27 9 = some (.iconst 0, 0, 0) := by decide +kernel
theorem vr_27_10 : zrx 27 10 = some (.ireturn, 0, 0) := by decide +kernel
theorem vr_27_11 : zrx 27 11 = some (.aload_n 1, 0, 0) := by decide +kernel
theorem vr_27_12 : zrx 27 12 = some (.aload_n 0, 0, 0) := by decide +kernel
theorem vr_27_13 : zrx 27 13 = some (.iconst 4, 0, 0) := by decide +kernel
theorem vr_27_14 : zrx 27 14 = some (.invokevirtual 44, 35, 90) := by decide +kernel
theorem vr_27_17 : zrx 27 17 = some (.putfield 48, 4, 0) := by decide +kernel
theorem vr_27_20 : zrx 27 20 = some (.aload_n 1, 0, 0) := by decide +kernel
theorem vr_27_21 : zrx 27 21 = some (.getfield 48, 4, 0) := by decide +kernel
theorem vr_27_24 : zrx 27 24 = some (.iconst (-1), 0, 0) := by decide +kernel
theorem vr_27_25 : zrx 27 25 = some (.if_icmp .eq 7, 0, 0) := by decide +kernel
theorem vr_27_28 : zrx 27 28 = some (.iconst 1, 0, 0) := by decide +kernel
theorem vr_27_29 : zrx 27 29 = some (.goto 4, 0, 0) := by decide +kernel
theorem vr_27_32 : zrx 27 32 = some (.iconst 0, 0, 0) := by decide +kernel
theorem vr_27_33 : zrx 27 33 = some (.ireturn, 0, 0) := by decide +kernel
theorem vr_28_0 : zrx 28 0 = some (.aload_n 0, 0, 0) := by decide +kernel
theorem vr_28_1 : zrx 28 1 = some (.bipush 99, 0, 0) := by decide +kernel
theorem vr_28_3 : zrx 28 3 = some (.invokevirtual 40, 34, 90) := by decide +kernel
theorem vr_28_6 : zrx 28 6 = some (.ifCond .ne 5, 0, 0) := by decide +kernel
theorem vr_28_9 : zrx 28 9 = some (.iconst 0, 0, 0) := by decide +kernel
theorem vr_28_10 : zrx 28 10 = some (.ireturn, 0, 0) := by decide +kernel
theorem vr_28_11 : zrx 28 11 = some (.iconst (-1), 0, 0) := by decide +kernel
theorem vr_28_12 : zrx 28 12 = some (.istore_n 2, 0, 0) := by decide +kernel
theorem vr_28_13 : zrx 28 13 = some (.iconst 0, 0, 0) := by decide +kernel
theorem vr_28_14 : zrx 28 14 = some (.istore_n 3, 0, 0) := by decide +kernel
theorem vr_28_15 : zrx 28 15 = some (.iload_n 3, 0, 0) := by decide +kernel
theorem vr_28_16 : zrx 28 16 = some (.iconst 4, 0, 0) := by decide +kernel
theorem vr_28_17 : zrx 28 17 = some (.if_icmp .ge 49, 0, 0) := by decide +kernel
theorem vr_28_20 : zrx 28 20 = some (.aload_n 0, 0, 0) := by decide +kernel
theorem vr_28_21 : zrx 28 21 = some (.iconst 4, 0, 0) := by decide +kernel
theorem vr_28_22 : zrx 28 22 = some (.invokevirtual 44, 35, 90) := by decide +kernel
theorem vr_28_25 : zrx 28 25 = some (.istore 4, 0, 0) := by decide +kernel
theorem vr_28_27 : zrx 28 27 = some (.iload 4, 0, 0) := by decide +kernel
theorem vr_28_29 : zrx 28 29 = some (.iconst (-1), 0, 0) := by decide +kernel
theorem vr_28_30 : zrx 28 30 = some (.if_icmp .ne 6, 0, 0) := by decide +kernel
theorem vr_28_33 : zrx 28 33 = some (.goto 33, 0, 0) := by decide +kernel
theorem vr_28_36 : zrx 28 36 = some (.iload 4, 0, 0) := by decide +kernel
theorem vr_28_38 : zrx 28 38 = some (.iload_n 2, 0, 0) := by decide +kernel
theorem vr_28_39 : zrx 28 39 = some (.if_icmp .gt 5, 0, 0) := by decide +kernel
theorem vr_28_42 : zrx 28 42 = some (.iconst 0, 0, 0) := by decide +kernel
theorem vr_28_43 : zrx 28 43 = some (.ireturn, 0, 0) := by decide +kernel
theorem vr_28_44 : zrx 28 44 = some (.aload_n 1, 0, 0) := by decide +kernel
theorem vr_28_45 : zrx 28 45 = some (.dup, 0, 0) := by decide +kernel
theorem vr_28_46 : zrx 28 46 = some (.getfield 53, 4, 1) := by decide +kernel
theorem vr_28_49 : zrx 28 49 = some (.iconst 1, 0, 0) := by decide +kernel
theorem vr_28_50 : zrx 28 50 = some (.iload 4, 0, 0) := by decide +kernel
theorem vr_28_52 : zrx 28 52 = some (.ishl, 0, 0) := by decide +kernel
theorem vr_28_53 : zrx 28 53 = some (.ior, 0, 0) := by decide +kernel
theorem vr_28_54 : zrx 28 54 = some (.putfield 53, 4, 1) := by decide +kernel
theorem vr_28_57 : zrx 28 57 = some (.iload 4, 0, 0) := by decide +kernel
theorem vr_28_59 : zrx 28 59 = some (.istore_n 2, 0, 0) := by decide +kernel
theorem vr_28_60 : zrx 28 60 = some (.iinc 3 1, 0, 0) := by decide +kernel
theorem vr_28_63 : zrx 28 63 = some (.goto (-48), 0, 0) := by decide +kernel
theorem vr_28_66 : zrx 28 66 = some (.iload_n 2, 0, 0) := by decide +kernel
theorem vr_28_67 : zrx 28 67 = some (.iconst (-1), 0, 0) := by decide +kernel
theorem vr_28_68 : zrx 28 68 = some (.if_icmp .eq 7, 0, 0) := by decide +kernel
theorem vr_28_71 : zrx 28 71 = some (.iconst 1, 0, 0) := by decide +kernel
theorem vr_28_72 : zrx 28 72 = some (.goto 4, 0, 0) := by decide +kernel
theorem vr_28_75 : zrx 28 75 = some (.iconst 0, 0, 0) := by decide +kernel
theorem vr_28_76 : zrx 28 76 = some (.ireturn, 0, 0) := by decide +kernel
theorem vr_29_0 : zrx 29 0 = some (.iconst 0, 0, 0) := by decide +kernel
theorem vr_29_1 : zrx 29 1 = some (.istore_n 2, 0, 0) := by decide +kernel
theorem vr_29_2 : zrx 29 2 = some (.iload_n 2, 0, 0) := by decide +kernel
theorem vr_29_3 : zrx 29 3 = some (.bipush 60, 0, 0) := by decide +kernel
theorem vr_29_5 : zrx 29 5 = some (.if_icmp .ge 30, 0, 0) := by decide +kernel
theorem vr_29_8 : zrx 29 8 = some (.aload_n 0, 0, 0) := by decide +kernel
theorem vr_29_9 : zrx 29 9 = some (.bipush 61, 0, 0) := by decide +kernel
theorem vr_29_11 : zrx 29 11 = some (.invokevirtual 40, 34, 90) := by decide +kernel
theorem vr_29_14 : zrx 29 14 = some (.ifCond .eq 5, 0, 0) := by decide +kernel
theorem vr_29_17 : zrx 29 17 = some (.iconst 1, 0, 0) := by decide +kernel
theorem vr_29_18 : zrx 29 18 = some (.ireturn, 0, 0) := by decide +kernel
theorem vr_29_19 : zrx 29 19 = some (.aload_n 0, 0, 0) := by decide +kernel
theorem vr_29_20 : zrx 29 20 = some (.aload_n 1, 0, 0) := by decide +kernel
theorem vr_29_21 : zrx 29 21 = some (.invokevirtual 56, 30, 90) := by decide +kernel
theorem vr_29_24 : zrx 29 24 = some (.ifCond .ne 5, 0, 0) := by decide +kernel
theorem vr_29_27 : zrx 29 27 = some (.iconst 0, 0, 0) := by decide +kernel
theorem vr_29_28 : zrx 29 28 = some (.ireturn, 0, 0) := by decide +kernel
theorem vr_29_29 : zrx 29 29 = some (.iinc 2 1, 0, 0) := by decide +kernel
theorem vr_29_32 : zrx 29 32 = some (.goto (-30), 0, 0) := by decide +kernel
theorem vr_29_35 : zrx 29 35 = some (.iconst 0, 0, 0) := by decide +kernel
theorem vr_29_36 : zrx 29 36 = some (.ireturn, 0, 0) := by decide +kernel
theorem vr_30_0 : zrx 30 0 = some (.aload_n 0, 0, 0) := by decide +kernel
theorem vr_30_1 : zrx 30 1 = some (.invokevirtual 36, 33, 90) := by decide +kernel
theorem vr_30_4 : zrx 30 4 = some (.istore_n 2, 0, 0) := by decide +kernel
theorem vr_30_5 : zrx 30 5 = some (.iload_n 2, 0, 0) := by decide +kernel
theorem vr_30_6 : zrx 30 6 = some (.bipush 43, 0, 0) := by decide +kernel
theorem vr_30_8 : zrx 30 8 = some (.if_icmp .eq 9, 0, 0) := by decide +kernel
theorem vr_30_11 : zrx 30 11 = some (.iload_n 2, 0, 0) := by decide +kernel
theorem vr_30_12 : zrx 30 12 = some (.bipush 45, 0, 0) := by decide +kernel
theorem vr_30_14 : zrx 30 14 = some (.if_icmp .ne 62, 0, 0) := by decide +kernel
theorem vr_30_17 : zrx 30 17 = some (.aload_n 0, 0, 0) := by decide +kernel
theorem vr_30_18 : zrx 30 18 = some (.dup, 0, 0) := by decide +kernel
theorem vr_30_19 : zrx 30 19 = some (.getfield 15, 8, 2) := by decide +kernel
theorem vr_30_22 : zrx 30 22 = some (.iconst 1, 0, 0) := by decide +kernel
theorem vr_30_23 : zrx 30 23 = some (.iadd, 0, 0) := by decide +kernel
theorem vr_30_24 : zrx 30 24 = some (.putfield 15, 8, 2) := by decide +kernel
theorem vr_30_27 : zrx 30 27 = some (.aload_n 0, 0, 0) := by decide +kernel
theorem vr_30_28 : zrx 30 28 = some (.bipush 6, 0, 0) := by decide +kernel
theorem vr_30_30 : zrx 30 30 = some (.invokevirtual 44, 35, 90) := by decide +kernel
theorem vr_30_33 : zrx 30 33 = some (.istore_n 3, 0, 0) := by decide +kernel
theorem vr_30_34 : zrx 30 34 = some (.iload_n 3, 0, 0) := by decide +kernel
theorem vr_30_35 : zrx 30 35 = some (.iconst (-1), 0, 0) := by decide +kernel
theorem vr_30_36 : zrx 30 36 = some (.if_icmp .ne 5, 0, 0) := by decide +kernel
theorem vr_30_39 : zrx 30 39 = some (.iconst 0, 0, 0) := by decide +kernel
theorem vr_30_40 : zrx 30 40 = some (.ireturn, 0, 0) := by decide +kernel
theorem vr_30_41 : zrx 30 41 = some (.iload_n 2, 0, 0) := by decide +kernel
theorem vr_30_42 : zrx 30 42 = some (.bipush 43, 0, 0) := by decide +kernel
theorem vr_30_44 : zrx 30 44 = some (.if_icmp .ne 18, 0, 0) := by decide +kernel
theorem vr_30_47 : zrx 30 47 = some (.aload_n 1, 0, 0) := by decide +kernel
theorem vr_30_48 : zrx 30 48 = some (.dup, 0, 0) := by decide +kernel
theorem vr_30_49 : zrx 30 49 = some (.getfield 59, 4, 2) := by decide +kernel
theorem vr_30_52 : zrx 30 52 = some (.iconst 1, 0, 0) := by decide +kernel
theorem vr_30_53 : zrx 30 53 = some (.iload_n 3, 0, 0) := by decide +kernel
theorem vr_30_54 : zrx 30 54 = some (.ishl, 0, 0) := by decide +kernel
theorem vr_30_55 : zrx 30 55 = some (.ior, 0, 0) := by decide +kernel
theorem vr_30_56 : zrx 30 56 = some (.putfield 59, 4, 2) := by decide +kernel
theorem vr_30_59 : zrx 30 59 = some (.goto 15, 0, 0) := by decide +kernel
theorem vr_30_62 : zrx 30 62 = some (.aload_n 1, 0, 0) := by decide +kernel
theorem vr_30_63 : zrx 30 63 = some (.dup, 0, 0) := by decide +kernel
theorem vr_30_64 : zrx 30 64 = some (.getfield 62, 4, 3) := by decide +kernel
theorem vr_30_67 : zrx 30 67 = some (.iconst 1, 0, 0) := by decide +kernel
theorem vr_30_68 : zrx 30 68 = some (.iload_n 3, 0, 0) := by decide +kernel
theorem vr_30_69 : zrx 30 69 = some (.ishl, 0, 0) := by decide +kernel
theorem vr_30_70 : zrx 30 70 = some (.ior, 0, 0) := by decide +kernel
theorem vr_30_71 : zrx 30 71 = some (.putfield 62, 4, 3) := by decide +kernel
theorem vr_30_74 : zrx 30 74 = some (.iconst 1, 0, 0) := by decide +kernel
theorem vr_30_75 : zrx 30 75 = some (.ireturn, 0, 0) := by decide +kernel
theorem vr_30_76 : zrx 30 76 = some (.iload_n 2, 0, 0) := by decide +kernel
theorem vr_30_77 : zrx 30 77 = some (.bipush 60, 0, 0) := by decide +kernel
theorem vr_30_79 : zrx 30 79 = some (.if_icmp .eq 9, 0, 0) := by decide +kernel
theorem vr_30_82 : zrx 30 82 = some (.iload_n 2, 0, 0) := by decide +kernel
theorem vr_30_83 : zrx 30 83 = some (.bipush 62, 0, 0) := by decide +kernel
theorem vr_30_85 : zrx 30 85 = some (.if_icmp .ne 41, 0, 0) := by decide +kernel
theorem vr_30_88 : zrx 30 88 = some (.aload_n 0, 0, 0) := by decide +kernel
theorem vr_30_89 : zrx 30 89 = some (.dup, 0, 0) := by decide +kernel
theorem vr_30_90 : zrx 30 90 = some (.getfield 15, 8, 2) := by decide +kernel
theorem vr_30_93 : zrx 30 93 = some (.iconst 1, 0, 0) := by decide +kernel
theorem vr_30_94 : zrx 30 94 = some (.iadd, 0, 0) := by decide +kernel
theorem vr_30_95 : zrx 30 95 = some (.putfield 15, 8, 2) := by decide +kernel
theorem vr_30_98 : zrx 30 98 = some (.aload_n 0, 0, 0) := by decide +kernel
theorem vr_30_99 : zrx 30 99 = some (.sipush 999, 0, 0) := by decide +kernel
theorem vr_30_102 : zrx 30 102 = some (.invokevirtual 65, 36, 90) := by decide +kernel
theorem vr_30_105 : zrx 30 105 = some (.istore_n 3, 0, 0) := by decide +kernel
theorem vr_30_106 : zrx 30 106 = some (.iload_n 3, 0, 0) := by decide +kernel
theorem vr_30_107 : zrx 30 107 = some (.iconst (-1), 0, 0) := by decide +kernel
theorem vr_30_108 : zrx 30 108 = some (.if_icmp .eq 16, 0, 0) := by decide +kernel
theorem vr_30_111 : zrx 30 111 = some (.aload_n 1, 0, 0) := by decide +kernel
theorem vr_30_112 : zrx 30 112 = some (.iload_n 2, 0, 0) := by decide +kernel
theorem vr_30_113 : zrx 30 113 = some (.iload_n 3, 0, 0) := by decide +kernel
theorem vr_30_114 : zrx 30 114 = some (.invokevirtual 68, 3, 50) := by decide +kernel
theorem vr_30_117 : zrx 30 117 = some (.ifCond .eq 7, 0, 0) := by decide +kernel
theorem vr_30_120 : zrx 30 120 = some (.iconst 1, 0, 0) := by decide +kernel
theorem vr_30_121 : zrx 30 121 = some (.goto 4, 0, 0) := by decide +kernel
theorem vr_30_124 : zrx 30 124 = some (.iconst 0, 0, 0) := by decide +kernel
theorem vr_30_125 : zrx 30 125 = some (.ireturn, 0, 0) := by decide +kernel
theorem vr_30_126 : zrx 30 126 = some (.iconst 0, 0, 0) := by decide +kernel
theorem vr_30_127 : zrx 30 127 = some (.ireturn, 0, 0) := by decide +kernel
theorem vr_31_0 : zrx 31 0 = some (.aload_n 0, 0, 0) := by decide +kernel
theorem vr_31_1 : zrx 31 1 = some (.bipush 37, 0, 0) := by decide +kernel
theorem vr_31_3 : zrx 31 3 = some (.invokevirtual 40, 34, 90) := by decide +kernel
theorem vr_31_6 : zrx 31 6 = some (.ifCond .eq 10, 0, 0) := by decide +kernel
theorem vr_31_9 : zrx 31 9 = some (.aload_n 1, 0, 0) := by decide +kernel
theorem vr_31_10 : zrx 31 10 = some (.iconst (-1), 0, 0) := by decide +kernel
theorem vr_31_11 : zrx 31 11 = some (.putfield 72, 4, 6) := by decide +kernel
theorem vr_31_14 : zrx 31 14 = some (.iconst 1, 0, 0) := by decide +kernel
theorem vr_31_15 : zrx 31 15 = some (.ireturn, 0, 0) := by decide +kernel
theorem vr_31_16 : zrx 31 16 = some (.aload_n 0, 0, 0) := by decide +kernel
theorem vr_31_17 : zrx 31 17 = some (.bipush 64, 0, 0) := by decide +kernel
theorem vr_31_19 : zrx 31 19 = some (.invokevirtual 40, 34, 90) := by decide +kernel
theorem vr_31_22 : zrx 31 22 = some (.ifCond .eq 30, 0, 0) := by decide +kernel
theorem vr_31_25 : zrx 31 25 = some (.aload_n 0, 0, 0) := by decide +kernel
theorem vr_31_26 : zrx 31 26 = some (.iload_n 2, 0, 0) := by decide +kernel
theorem vr_31_27 : zrx 31 27 = some (.iconst 1, 0, 0) := by decide +kernel
theorem vr_31_28 : zrx 31 28 = some (.isub, 0, 0) := by decide +kernel
theorem vr_31_29 : zrx 31 29 = some (.invokevirtual 65, 36, 90) := by decide +kernel
theorem vr_31_32 : zrx 31 32 = some (.istore_n 3, 0, 0) := by decide +kernel
theorem vr_31_33 : zrx 31 33 = some (.aload_n 1, 0, 0) := by decide +kernel
theorem vr_31_34 : zrx 31 34 = some (.bipush (-2), 0, 0) := by decide +kernel
theorem vr_31_36 : zrx 31 36 = some (.iload_n 3, 0, 0) := by decide +kernel
theorem vr_31_37 : zrx 31 37 = some (.isub, 0, 0) := by decide +kernel
theorem vr_31_38 : zrx 31 38 = some (.putfield 72, 4, 6) := by decide +kernel
theorem vr_31_41 : zrx 31 41 = some (.iload_n 3, 0, 0) := by decide +kernel
theorem vr_31_42 : zrx 31 42 = some (.iconst (-1), 0, 0) := by decide +kernel
theorem vr_31_43 : zrx 31 43 = some (.if_icmp .eq 7, 0, 0) := by decide +kernel
theorem vr_31_46 : zrx 31 46 = some (.iconst 1, 0, 0) := by decide +kernel
theorem vr_31_47 : zrx 31 47 = some (.goto 4, 0, 0) := by decide +kernel
theorem vr_31_50 : zrx 31 50 = some (.iconst 0, 0, 0) := by decide +kernel
theorem vr_31_51 : zrx 31 51 = some (.ireturn, 0, 0) := by decide +kernel
theorem vr_31_52 : zrx 31 52 = some (.aload_n 1, 0, 0) := by decide +kernel
theorem vr_31_53 : zrx 31 53 = some (.aload_n 0, 0, 0) := by decide +kernel
theorem vr_31_54 : zrx 31 54 = some (.bipush 100, 0, 0) := by decide +kernel
theorem vr_31_56 : zrx 31 56 = some (.invokevirtual 65, 36, 90) := by decide +kernel
theorem vr_31_59 : zrx 31 59 = some (.putfield 72, 4, 6) := by decide +kernel
theorem vr_31_62 : zrx 31 62 = some (.aload_n 1, 0, 0) := by decide +kernel
theorem vr_31_63 : zrx 31 63 = some (.getfield 72, 4, 6) := by decide +kernel
theorem vr_31_66 : zrx 31 66 = some (.iconst (-1), 0, 0) := by decide +kernel
theorem vr_31_67 : zrx 31 67 = some (.if_icmp .eq 7, 0, 0) := by decide +kernel
theorem vr_31_70 : zrx 31 70 = some (.iconst 1, 0, 0) := by decide +kernel
theorem vr_31_71 : zrx 31 71 = some (.goto 4, 0, 0) := by decide +kernel
theorem vr_31_74 : zrx 31 74 = some (.iconst 0, 0, 0) := by decide +kernel
theorem vr_31_75 : zrx 31 75 = some (.ireturn, 0, 0) := by decide +kernel
theorem vr_32_0 : zrx 32 0 = some (.aload_n 0, 0, 0) := by decide +kernel
theorem vr_32_1 : zrx 32 1 = some (.bipush 120, 0, 0) := by decide +kernel
theorem vr_32_3 : zrx 32 3 = some (.invokevirtual 40, 34, 90) := by decide +kernel
theorem vr_32_6 : zrx 32 6 = some (.ifCond .ne 5, 0, 0) := by decide +kernel
theorem vr_32_9 : zrx 32 9 = some (.iconst 1, 0, 0) := by decide +kernel
theorem vr_32_10 : zrx 32 10 = some (.ireturn, 0, 0) := by decide +kernel
theorem vr_32_11 : zrx 32 11 = some (.aload_n 1, 0, 0) := by decide +kernel
theorem vr_32_12 : zrx 32 12 = some (.aload_n 0, 0, 0) := by decide +kernel
theorem vr_32_13 : zrx 32 13 = some (.iload_n 2, 0, 0) := by decide +kernel
theorem vr_32_14 : zrx 32 14 = some (.iconst 1, 0, 0) := by decide +kernel
theorem vr_32_15 : zrx 32 15 = some (.isub, 0, 0) := by decide +kernel
theorem vr_32_16 : zrx 32 16 = some (.invokevirtual 65, 36, 90) := by decide +kernel
theorem vr_32_19 : zrx 32 19 = some (.putfield 75, 4, 7) := by decide +kernel
theorem vr_32_22 : zrx 32 22 = some (.aload_n 1, 0, 0) := by decide +kernel
theorem vr_32_23 : zrx 32 23 = some (.getfield 75, 4, 7) := by decide +kernel
theorem vr_32_26 : zrx 32 26 = some (.iconst (-1), 0, 0) := by decide +kernel
theorem vr_32_27 : zrx 32 27 = some (.if_icmp .eq 7, 0, 0) := by decide +kernel
theorem vr_32_30 : zrx 32 30 = some (.iconst 1, 0, 0) := by decide +kernel
theorem vr_32_31 : zrx 32 31 = some (.goto 4, 0, 0) := by decide +kernel
theorem vr_32_34 : zrx 32 34 = some (.iconst 0, 0, 0) := by decide +kernel
theorem vr_32_35 : zrx 32 35 = some (.ireturn, 0, 0) := by decide +kernel
theorem vr_33_0 : zrx 33 0 = some (.aload_n 0, 0, 0) := by decide +kernel
theorem vr_33_1 : zrx 33 1 = some (.getfield 15, 8, 2) := by decide +kernel
theorem vr_33_4 : zrx 33 4 = some (.aload_n 0, 0, 0) := by decide +kernel
theorem vr_33_5 : zrx 33 5 = some (.getfield 78, 8, 1) := by decide +kernel
theorem vr_33_8 : zrx 33 8 = some (.if_icmp .ge 30, 0, 0) := by decide +kernel
theorem vr_33_11 : zrx 33 11 = some (.aload_n 0, 0, 0) := by decide +kernel
theorem vr_33_12 : zrx 33 12 = some (.getfield 9, 8, 0) := by decide +kernel
theorem vr_33_15 : zrx 33 15 = some (.aload_n 0, 0, 0) := by decide +kernel
theorem vr_33_16 : zrx 33 16 = some (.getfield 15, 8, 2) := by decide +kernel
theorem vr_33_19 : zrx 33 19 = some (.iaload, 0, 0) := by decide +kernel
theorem vr_33_20 : zrx 33 20 = some (.bipush 32, 0, 0) := by decide +kernel
theorem vr_33_22 : zrx 33 22 = some (.if_icmp .ne 16, 0, 0) := by decide +kernel
theorem vr_33_25 : zrx 33 25 = some (.aload_n 0, 0, 0) := by decide +kernel
theorem vr_33_26 : zrx 33 26 = some (.dup, 0, 0) := by decide +kernel
theorem vr_33_27 : zrx 33 27 = some (.getfield 15, 8, 2) := by decide +kernel
theorem vr_33_30 : zrx 33 30 = some (.iconst 1, 0, 0) := by decide +kernel
theorem vr_33_31 : zrx 33 31 = some (.iadd, 0, 0) := by decide +kernel
theorem vr_33_32 : zrx 33 32 = some (.putfield 15, 8, 2) := by decide +kernel
theorem vr_33_35 : zrx 33 35 = some (.goto (-35), 0, 0) := by decide +kernel
theorem vr_33_38 : zrx 33 38 = some (.aload_n 0, 0, 0) := by decide +kernel
theorem vr_33_39 : zrx 33 39 = some (.getfield 15, 8, 2) := by decide +kernel
theorem vr_33_42 : zrx 33 42 = some (.aload_n 0, 0, 0) := by decide +kernel
theorem vr_33_43 : zrx 33 43 = some (.getfield 78, 8, 1) := by decide +kernel
theorem vr_33_46 : zrx 33 46 = some (.if_icmp .ge 15, 0, 0) := by decide +kernel
theorem vr_33_49 : zrx 33 49 = some (.aload_n 0, 0, 0) := by decide +kernel
theorem vr_33_50 : zrx 33 50 = some (.getfield 9, 8, 0) := by decide +kernel
theorem vr_33_53 : zrx 33 53 = some (.aload_n 0, 0, 0) := by decide +kernel
theorem vr_33_54 : zrx 33 54 = some (.getfield 15, 8, 2) := by decide +kernel
theorem vr_33_57 : zrx 33 57 = some (.iaload, 0, 0) := by decide +kernel
theorem vr_33_58 : zrx 33 58 = some (.goto 4, 0, 0) := by decide +kernel
theorem vr_33_61 : zrx 33 61 = some (.iconst (-1), 0, 0) := by decide +kernel
theorem vr_33_62 : zrx 33 62 = some (.ireturn, 0, 0) := by decide +kernel
theorem vr_34_0 : zrx 34 0 = some (.aload_n 0, 0, 0) := by decide +kernel
theorem vr_34_1 : zrx 34 1 = some (.invokevirtual 36, 33, 90) := by decide +kernel
theorem vr_34_4 : zrx 34 4 = some (.iload_n 1, 0, 0) := by decide +kernel
theorem vr_34_5 : zrx 34 5 = some (.if_icmp .eq 5, 0, 0) := by decide +kernel
theorem vr_34_8 : zrx 34 8 = some (.iconst 0, 0, 0) := by decide +kernel
theorem vr_34_9 : zrx 34 9 = some (.ireturn, 0, 0) := by decide +kernel
theorem vr_34_10 : zrx 34 10 = some (.aload_n 0, 0, 0) := by decide +kernel
theorem vr_34_11 : zrx 34 11 = some (.dup, 0, 0) := by decide +kernel
theorem vr_34_12 : zrx 34 12 = some (.getfield 15, 8, 2) := by decide +kernel
theorem vr_34_15 : zrx 34 15 = some (.iconst 1, 0, 0) := by decide +kernel
theorem vr_34_16 : zrx 34 16 = some (.iadd, 0, 0) := by decide +kernel
theorem vr_34_17 : zrx 34 17 = some (.putfield 15, 8, 2) := by decide +kernel
theorem vr_34_20 : zrx 34 20 = some (.iconst 1, 0, 0) := by decide +kernel
theorem vr_34_21 : zrx 34 21 = some (.ireturn, 0, 0) := by decide +kernel
theorem vr_35_0 : zrx 35 0 = some (.aload_n 0, 0, 0) := by decide +kernel
theorem vr_35_1 : zrx 35 1 = some (.invokevirtual 36, 33, 90) := by decide +kernel
theorem vr_35_4 : zrx 35 4 = some (.istore_n 2, 0, 0) := by decide +kernel
theorem vr_35_5 : zrx 35 5 = some (.iload_n 2, 0, 0) := by decide +kernel
theorem vr_35_6 : zrx 35 6 = some (.bipush 48, 0, 0) := by decide +kernel
theorem vr_35_8 : zrx 35 8 = some (.if_icmp .lt 11, 0, 0) := by decide +kernel
theorem vr_35_11 : zrx 35 11 = some (.iload_n 2, 0, 0) := by decide +kernel
theorem vr_35_12 : zrx 35 12 = some (.bipush 48, 0, 0) := by decide +kernel
theorem vr_35_14 : zrx 35 14 = some (.iload_n 1, 0, 0) := by decide +kernel
theorem vr_35_15 : zrx 35 15 = some (.iadd, 0, 0) := by decide +kernel
theorem vr_35_16 : zrx 35 16 = some (.if_icmp .lt 5, 0, 0) := by decide +kernel
theorem vr_35_19 : zrx 35 19 = some (.iconst (-1), 0, 0) := by decide +kernel
theorem vr_35_20 : zrx 35 20 = some (.ireturn, 0, 0) := by decide +kernel
theorem vr_35_21 : zrx 35 21 = some (.aload_n 0, 0, 0) := by decide +kernel
theorem vr_35_22 : zrx 35 22 = some (.dup, 0, 0) := by decide +kernel
theorem vr_35_23 : zrx 35 23 = some (.getfield 15, 8, 2) := by decide +kernel
theorem vr_35_26 : zrx 35 26 = some (.iconst 1, 0, 0) := by decide +kernel
theorem vr_35_27 : zrx 35 27 = some (.iadd, 0, 0) := by decide +kernel
theorem vr_35_28 : zrx 35 28 = some (.putfield 15, 8, 2) := by decide +kernel
theorem vr_35_31 : zrx 35 31 = some (.iload_n 2, 0, 0) := by decide +kernel
theorem vr_35_32 : zrx 35 32 = some (.bipush 48, 0, 0) := by decide +kernel
theorem vr_35_34 : zrx 35 34 = some (.isub, 0, 0) := by decide +kernel
theorem vr_35_35 : zrx 35 35 = some (.ireturn, 0, 0) := by decide +kernel
theorem vr_36_0 : zrx 36 0 = some (.aload_n 0, 0, 0) := by decide +kernel
theorem vr_36_1 : zrx 36 1 = some (.bipush 10, 0, 0) := by decide +kernel
theorem vr_36_3 : zrx 36 3 = some (.invokevirtual 44, 35, 90) := by decide +kernel
theorem vr_36_6 : zrx 36 6 = some (.istore_n 2, 0, 0) := by decide +kernel
theorem vr_36_7 : zrx 36 7 = some (.iconst 1, 0, 0) := by decide +kernel
theorem vr_36_8 : zrx 36 8 = some (.istore_n 3, 0, 0) := by decide +kernel
theorem vr_36_9 : zrx 36 9 = some (.iload_n 3, 0, 0) := by decide +kernel
theorem vr_36_10 : zrx 36 10 = some (.iconst 3, 0, 0) := by decide +kernel
theorem vr_36_11 : zrx 36 11 = some (.if_icmp .ge 67, 0, 0) := by decide +kernel
theorem vr_36_14 : zrx 36 14 = some (.iload_n 2, 0, 0) := by decide +kernel
theorem vr_36_15 : zrx 36 15 = some (.iconst (-1), 0, 0) := by decide +kernel
theorem vr_36_16 : zrx 36 16 = some (.if_icmp .eq 62, 0, 0) := by decide +kernel
theorem vr_36_19 : zrx 36 19 = some (.aload_n 0, 0, 0) := by decide +kernel
theorem vr_36_20 : zrx 36 20 = some (.getfield 15, 8, 2) := by decide +kernel
theorem vr_36_23 : zrx 36 23 = some (.aload_n 0, 0, 0) := by decide +kernel
theorem vr_36_24 : zrx 36 24 = some (.getfield 78, 8, 1) := by decide +kernel
theorem vr_36_27 : zrx 36 27 = some (.if_icmp .ge 51, 0, 0) := by decide +kernel
theorem vr_36_30 : zrx 36 30 = some (.aload_n 0, 0, 0) := by decide +kernel
theorem vr_36_31 : zrx 36 31 = some (.getfield 9, 8, 0) := by decide +kernel
theorem vr_36_34 : zrx 36 34 = some (.aload_n 0, 0, 0) := by decide +kernel
theorem vr_36_35 : zrx 36 35 = some (.getfield 15, 8, 2) := by decide +kernel
theorem vr_36_38 : zrx 36 38 = some (.iaload, 0, 0) := by decide +kernel
theorem vr_36_39 : zrx 36 39 = some (.bipush 32, 0, 0) := by decide +kernel
theorem vr_36_41 : zrx 36 41 = some (.if_icmp .ne 6, 0, 0) := by decide +kernel
theorem vr_36_44 : zrx 36 44 = some (.goto 34, 0, 0) := by decide +kernel
theorem vr_36_47 : zrx 36 47 = some (.aload_n 0, 0, 0) := by decide +kernel
theorem vr_36_48 : zrx 36 48 = some (.bipush 10, 0, 0) := by decide +kernel
theorem vr_36_50 : zrx 36 50 = some (.invokevirtual 44, 35, 90) := by decide +kernel
theorem vr_36_53 : zrx 36 53 = some (.istore 4, 0, 0) := by decide +kernel
theorem vr_36_55 : zrx 36 55 = some (.iload 4, 0, 0) := by decide +kernel
theorem vr_36_57 : zrx 36 57 = some (.iconst (-1), 0, 0) := by decide +kernel
theorem vr_36_58 : zrx 36 58 = some (.if_icmp .ne 6, 0, 0) := by decide +kernel
theorem vr_36_61 : zrx 36 61 = some (.goto 17, 0, 0) := by decide +kernel
theorem vr_36_64 : zrx 36 64 = some (.iload_n 2, 0, 0) := by decide +kernel
theorem vr_36_65 : zrx 36 65 = some (.bipush 10, 0, 0) := by decide +kernel
theorem vr_36_67 : zrx 36 67 = some (.imul, 0, 0) := by decide +kernel
theorem vr_36_68 : zrx 36 68 = some (.iload 4, 0, 0) := by decide +kernel
theorem vr_36_70 : zrx 36 70 = some (.iadd, 0, 0) := by decide +kernel
theorem vr_36_71 : zrx 36 71 = some (.istore_n 2, 0, 0) := by decide +kernel
theorem vr_36_72 : zrx 36 72 = some (.iinc 3 1, 0, 0) := by decide +kernel
theorem vr_36_75 : zrx 36 75 = some (.goto (-66), 0, 0) := by decide +kernel
theorem vr_36_78 : zrx 36 78 = some (.iload_n 2, 0, 0) := by decide +kernel
theorem vr_36_79 : zrx 36 79 = some (.iload_n 1, 0, 0) := by decide +kernel
theorem vr_36_80 : zrx 36 80 = some (.if_icmp .le 7, 0, 0) := by decide +kernel
theorem vr_36_83 : zrx 36 83 = some (.iconst (-1), 0, 0) := by decide +kernel
theorem vr_36_84 : zrx 36 84 = some (.goto 4, 0, 0) := by decide +kernel
theorem vr_36_87 : zrx 36 87 = some (.iload_n 2, 0, 0) := by decide +kernel
theorem vr_36_88 : zrx 36 88 = some (.ireturn, 0, 0) := by decide +kernel
theorem vr_261_0 : zrx 261 0 = some (.iload_n 0, 0, 0) := by decide +kernel
theorem vr_261_1 : zrx 261 1 = some (.iload_n 1, 0, 0) := by decide +kernel
theorem vr_261_2 : zrx 261 2 = some (.if_icmp .lt 7, 0, 0) := by decide +kernel
theorem vr_261_5 : zrx 261 5 = some (.iload_n 0, 0, 0) := by decide +kernel
theorem vr_261_6 : zrx 261 6 = some (.goto 4, 0, 0) := by decide +kernel
theorem vr_261_9 : zrx 261 9 = some (.iload_n 1, 0, 0) := by decide +kernel
theorem vr_261_10 : zrx 261 10 = some (.ireturn, 0, 0) := by decide +kernel
theorem vr_262_0 : zrx 262 0 = some (.iload_n 0, 0, 0) := by decide +kernel
theorem vr_262_1 : zrx 262 1 = some (.iload_n 1, 0, 0) := by decide +kernel
theorem vr_262_2 : zrx 262 2 = some (.if_icmp .gt 7, 0, 0) := by decide +kernel
theorem vr_262_5 : zrx 262 5 = some (.iload_n 0, 0, 0) := by decide +kernel
theorem vr_262_6 : zrx 262 6 = some (.goto 4, 0, 0) := by decide +kernel
theorem vr_262_9 : zrx 262 9 = some (.iload_n 1, 0, 0) := by decide +kernel
theorem vr_262_10 : zrx 262 10 = some (.ireturn, 0, 0) := by decide +kernel
theorem vr_302_0 : zrx 302 0 = some (.aload_n 0, 0, 0) := by decide +kernel
theorem vr_302_1 : zrx 302 1 = some (.getfield 9, 2, 1) := by decide +kernel
theorem vr_302_4 : zrx 302 4 = some (.arraylength, 0, 0) := by decide +kernel
theorem vr_302_5 : zrx 302 5 = some (.istore_n 2, 0, 0) := by decide +kernel
theorem vr_302_6 : zrx 302 6 = some (.iload_n 2, 0, 0) := by decide +kernel
theorem vr_302_7 : zrx 302 7 = some (.ifCond .gt 13, 0, 0) := by decide +kernel
theorem vr_302_10 : zrx 302 10 = some (.aload_n 0, 0, 0) := by decide +kernel
theorem vr_302_11 : zrx 302 11 = some (.getfield 9, 2, 1) := by decide +kernel
theorem vr_302_14 : zrx 302 14 = some (.getstatic 39, 4, 3) := by decide +kernel
theorem vr_302_17 : zrx 302 17 = some (.if_acmp .eq 28, 0, 5000) := by decide +kernel
theorem vr_302_20 : zrx 302 20 = some (.iload_n 2, 0, 0) := by decide +kernel
theorem vr_302_21 : zrx 302 21 = some (.iload_n 1, 0, 0) := by decide +kernel
theorem vr_302_22 : zrx 302 22 = some (.iload_n 2, 0, 0) := by decide +kernel
theorem vr_302_23 : zrx 302 23 = some (.isub, 0, 0) := by decide +kernel
theorem vr_302_24 : zrx 302 24 = some (.iload_n 2, 0, 0) := by decide +kernel
theorem vr_302_25 : zrx 302 25 = some (.iconst 1, 0, 0) := by decide +kernel
theorem vr_302_26 : zrx 302 26 = some (.ishr, 0, 0) := by decide +kernel
theorem vr_302_27 : zrx 302 27 = some (.invokestatic 73, 317, 0) := by decide +kernel
theorem vr_302_30 : zrx 302 30 = some (.istore_n 3, 0, 0) := by decide +kernel
theorem vr_302_31 : zrx 302 31 = some (.aload_n 0, 0, 0) := by decide +kernel
theorem vr_302_32 : zrx 302 32 = some (.aload_n 0, 0, 0) := by decide +kernel
theorem vr_302_33 : zrx 302 33 = some (.getfield 9, 2, 1) := by decide +kernel
theorem vr_302_36 : zrx 302 36 = some (.iload_n 3, 0, 0) := by decide +kernel
theorem vr_302_37 : zrx 302 37 = some (.invokestatic 66, 310, 0) := by decide +kernel
theorem vr_302_40 : zrx 302 40 = some (.dup_x1, 0, 0) := by decide +kernel
theorem vr_302_41 : zrx 302 41 = some (.putfield 9, 2, 1) := by decide +kernel
theorem vr_302_44 : zrx 302 44 = some (.areturn, 0, 0) := by decide +kernel
theorem vr_302_45 : zrx 302 45 = some (.aload_n 0, 0, 0) := by decide +kernel
theorem vr_302_46 : zrx 302 46 = some (.bipush 10, 0, 0) := by decide +kernel
theorem vr_302_48 : zrx 302 48 = some (.iload_n 1, 0, 0) := by decide +kernel
theorem vr_302_49 : zrx 302 49 = some (.invokestatic 79, 261, 0) := by decide +kernel
theorem vr_302_52 : zrx 302 52 = some (.anewarray 7, 105, 0) := by decide +kernel
theorem vr_302_55 : zrx 302 55 = some (.dup_x1, 0, 0) := by decide +kernel
theorem vr_302_56 : zrx 302 56 = some (.putfield 9, 2, 1) := by decide +kernel
theorem vr_302_59 : zrx 302 59 = some (.areturn, 0, 0) := by decide +kernel
theorem vr_303_0 : zrx 303 0 = some (.aload_n 0, 0, 0) := by decide +kernel
theorem vr_303_1 : zrx 303 1 = some (.aload_n 0, 0, 0) := by decide +kernel
theorem vr_303_2 : zrx 303 2 = some (.getfield 48, 2, 2) := by decide +kernel
theorem vr_303_5 : zrx 303 5 = some (.iconst 1, 0, 0) := by decide +kernel
theorem vr_303_6 : zrx 303 6 = some (.iadd, 0, 0) := by decide +kernel
theorem vr_303_7 : zrx 303 7 = some (.invokevirtual 69, 302, 30) := by decide +kernel
theorem vr_303_10 : zrx 303 10 = some (.areturn, 0, 0) := by decide +kernel
theorem vr_304_0 : zrx 304 0 = some (.aload_n 0, 0, 0) := by decide +kernel
theorem vr_304_1 : zrx 304 1 = some (.getfield 48, 2, 2) := by decide +kernel
theorem vr_304_4 : zrx 304 4 = some (.ireturn, 0, 0) := by decide +kernel
theorem vr_305_0 : zrx 305 0 = some (.aload_n 0, 0, 0) := by decide +kernel
theorem vr_305_1 : zrx 305 1 = some (.getfield 9, 2, 1) := by decide +kernel
theorem vr_305_4 : zrx 305 4 = some (.iload_n 1, 0, 0) := by decide +kernel
theorem vr_305_5 : zrx 305 5 = some (.aaload, 0, 0) := by decide +kernel
theorem vr_305_6 : zrx 305 6 = some (.areturn, 0, 0) := by decide +kernel
theorem vr_306_0 : zrx 306 0 = some (.iload_n 1, 0, 0) := by decide +kernel
theorem vr_306_1 : zrx 306 1 = some (.aload_n 0, 0, 0) := by decide +kernel
theorem vr_306_2 : zrx 306 2 = some (.getfield 48, 2, 2) := by decide +kernel
theorem vr_306_5 : zrx 306 5 = some (.invokestatic 118, 316, 0) := by decide +kernel
theorem vr_306_8 : zrx 306 8 = some (.pop, 0, 0) := by decide +kernel
theorem vr_306_9 : zrx 306 9 = some (.aload_n 0, 0, 0) := by decide +kernel
theorem vr_306_10 : zrx 306 10 = some (.iload_n 1, 0, 0) := by decide +kernel
theorem vr_306_11 : zrx 306 11 = some (.invokevirtual 123, 305, 30) := by decide +kernel
theorem vr_306_14 : zrx 306 14 = some (.areturn, 0, 0) := by decide +kernel
theorem vr_308_0 : zrx 308 0 = some (.iload_n 3, 0, 0) := by decide +kernel
theorem vr_308_1 : zrx 308 1 = some (.aload_n 2, 0, 0) := by decide +kernel
theorem vr_308_2 : zrx 308 2 = some (.arraylength, 0, 0) := by decide +kernel
theorem vr_308_3 : zrx 308 3 = some (.if_icmp .ne 8, 0, 0) := by decide +kernel
theorem vr_308_6 : zrx 308 6 = some (.aload_n 0, 0, 0) := by decide +kernel
theorem vr_308_7 : zrx 308 7 = some (.invokevirtual 129, 303, 30) := by decide +kernel
theorem vr_308_10 : zrx 308 10 = some (.astore_n 2, 0, 0) := by decide +kernel
theorem vr_308_11 : zrx 308 11 = some (.aload_n 2, 0, 0) := by decide +kernel
theorem vr_308_12 : zrx 308 12 = some (.iload_n 3, 0, 0) := by decide +kernel
theorem vr_308_13 : zrx 308 13 = some (.aload_n 1, 0, 0) := by decide +kernel
theorem vr_308_14 : zrx 308 14 = some (.aastore, 0, 0) := by decide +kernel
theorem vr_308_15 : zrx 308 15 = some (.aload_n 0, 0, 0) := by decide +kernel
theorem vr_308_16 : zrx 308 16 = some (.iload_n 3, 0, 0) := by decide +kernel
theorem vr_308_17 : zrx 308 17 = some (.iconst 1, 0, 0) := by decide +kernel
theorem vr_308_18 : zrx 308 18 = some (.iadd, 0, 0) := by decide +kernel
theorem vr_308_19 : zrx 308 19 = some (.putfield 48, 2, 2) := by decide +kernel
theorem vr_308_22 : zrx 308 22 = some (.return_, 0, 0) := by decide +kernel
theorem vr_309_0 : zrx 309 0 = some (.aload_n 0, 0, 0) := by decide +kernel
theorem vr_309_1 : zrx 309 1 = some (.dup, 0, 0) := by decide +kernel
theorem vr_309_2 : zrx 309 2 = some (.getfield 63, 2, 5000) := by decide +kernel
theorem vr_309_5 : zrx 309 5 = some (.iconst 1, 0, 0) := by decide +kernel
theorem vr_309_6 : zrx 309 6 = some (.iadd, 0, 0) := by decide +kernel
theorem vr_309_7 : zrx 309 7 = some (.putfield 63, 2, 5000) := by decide +kernel
theorem vr_309_10 : zrx 309 10 = some (.aload_n 0, 0, 0) := by decide +kernel
theorem vr_309_11 : zrx 309 11 = some (.aload_n 1, 0, 0) := by decide +kernel
theorem vr_309_12 : zrx 309 12 = some (.aload_n 0, 0, 0) := by decide +kernel
theorem vr_309_13 : zrx 309 13 = some (.getfield 9, 2, 1) := by decide +kernel
theorem vr_309_16 : zrx 309 16 = some (.aload_n 0, 0, 0) := by decide +kernel
theorem vr_309_17 : zrx 309 17 = some (.getfield 48, 2, 2) := by decide +kernel
theorem vr_309_20 : zrx 309 20 = some (.invokevirtual 131, 308, 30) := by decide +kernel
theorem vr_309_23 : zrx 309 23 = some (.iconst 1, 0, 0) := by decide +kernel
theorem vr_309_24 : zrx 309 24 = some (.ireturn, 0, 0) := by decide +kernel
theorem vr_310_0 : zrx 310 0 = some (.aload_n 0, 0, 0) := by decide +kernel
theorem vr_310_1 : zrx 310 1 = some (.iload_n 1, 0, 0) := by decide +kernel
theorem vr_310_2 : zrx 310 2 = some (.aload_n 0, 0, 0) := by decide +kernel
theorem vr_310_3 : zrx 310 3 = some (.invokevirtual 86, 2, 5000) := by decide +kernel
theorem vr_310_6 : zrx 310 6 = some (.invokestatic 300, 311, 0) := by decide +kernel
theorem vr_310_9 : zrx 310 9 = some (.areturn, 0, 0) := by decide +kernel
theorem vr_311_0 : zrx 311 0 = some (.aload_n 2, 0, 0) := by decide +kernel
theorem vr_311_1 : zrx 311 1 = some (.ldc 110, 7, 3) := by decide +kernel
theorem vr_311_3 : zrx 311 3 = some (.if_acmp .ne 10, 0, 5000) := by decide +kernel
theorem vr_311_6 : zrx 311 6 = some (.iload_n 1, 0, 0) := by decide +kernel
theorem vr_311_7 : zrx 311 7 = some (.anewarray 2, 105, 0) := by decide +kernel
theorem vr_311_10 : zrx 311 10 = some (.goto 14, 0, 0) := by decide +kernel
theorem vr_311_13 : zrx 311 13 = some (.aload_n 2, 0, 0) := by decide +kernel
theorem vr_311_24 : zrx 311 24 = some (.astore_n 3, 0, 0) := by decide +kernel
theorem vr_311_25 : zrx 311 25 = some (.aload_n 0, 0, 0) := by decide +kernel
theorem vr_311_26 : zrx 311 26 = some (.iconst 0, 0, 0) := by decide +kernel
theorem vr_311_27 : zrx 311 27 = some (.aload_n 3, 0, 0) := by decide +kernel
theorem vr_311_28 : zrx 311 28 = some (.iconst 0, 0, 0) := by decide +kernel
theorem vr_311_29 : zrx 311 29 = some (.aload_n 0, 0, 0) := by decide +kernel
theorem vr_311_30 : zrx 311 30 = some (.arraylength, 0, 0) := by decide +kernel
theorem vr_311_31 : zrx 311 31 = some (.iload_n 1, 0, 0) := by decide +kernel
theorem vr_311_32 : zrx 311 32 = some (.invokestatic 304, 262, 0) := by decide +kernel
theorem vr_311_35 : zrx 311 35 = some (.invokestatic 150, 0, 5000) := by decide +kernel
theorem vr_311_38 : zrx 311 38 = some (.aload_n 3, 0, 0) := by decide +kernel
theorem vr_311_39 : zrx 311 39 = some (.areturn, 0, 0) := by decide +kernel
theorem vr_316_0 : zrx 316 0 = some (.iload_n 0, 0, 0) := by decide +kernel
theorem vr_316_1 : zrx 316 1 = some (.iload_n 1, 0, 0) := by decide +kernel
theorem vr_316_2 : zrx 316 2 = some (.aconst_null, 0, 0) := by decide +kernel
theorem vr_316_3 : zrx 316 3 = some (.invokestatic 105, 319, 0) := by decide +kernel
theorem vr_316_6 : zrx 316 6 = some (.ireturn, 0, 0) := by decide +kernel
theorem vr_317_0 : zrx 317 0 = some (.iload_n 0, 0, 0) := by decide +kernel
theorem vr_317_1 : zrx 317 1 = some (.iload_n 1, 0, 0) := by decide +kernel
theorem vr_317_2 : zrx 317 2 = some (.iload_n 2, 0, 0) := by decide +kernel
theorem vr_317_3 : zrx 317 3 = some (.invokestatic 194, 261, 0) := by decide +kernel
theorem vr_317_6 : zrx 317 6 = some (.iadd, 0, 0) := by decide +kernel
theorem vr_317_7 : zrx 317 7 = some (.istore_n 3, 0, 0) := by decide +kernel
theorem vr_317_8 : zrx 317 8 = some (.iconst 0, 0, 0) := by decide +kernel
theorem vr_317_9 : zrx 317 9 = some (.iload_n 3, 0, 0) := by decide +kernel
theorem vr_317_10 : zrx 317 10 = some (.if_icmp .ge 11, 0, 0) := by decide +kernel
theorem vr_317_13 : zrx 317 13 = some (.iload_n 3, 0, 0) := by decide +kernel
theorem vr_317_14 : zrx 317 14 = some (.ldc 200, 2147483639, 0) := by decide +kernel
theorem vr_317_16 : zrx 317 16 = some (.if_icmp .gt 5, 0, 0) := by decide +kernel
theorem vr_317_19 : zrx 317 19 = some (.iload_n 3, 0, 0) := by decide +kernel
theorem vr_317_20 : zrx 317 20 = some (.ireturn, 0, 0) := by decide +kernel
theorem vr_317_21 : zrx 317 21 = some (.iload_n 0, 0, 0) := by decide +kernel
theorem vr_317_22 : zrx 317 22 = some (.iload_n 1, 0, 0) := by decide +kernel
theorem vr_317_23 : zrx 317 23 = some (.invokestatic 201, 318, 0) := by decide +kernel
theorem vr_317_26 : zrx 317 26 = some (.ireturn, 0, 0) := by decide +kernel
theorem vr_318_0 : zrx 318 0 = some (.iload_n 0, 0, 0) := by decide +kernel
theorem vr_318_1 : zrx 318 1 = some (.iload_n 1, 0, 0) := by decide +kernel
theorem vr_318_2 : zrx 318 2 = some (.iadd, 0, 0) := by decide +kernel
theorem vr_318_3 : zrx 318 3 = some (.istore_n 2, 0, 0) := by decide +kernel
theorem vr_318_4 : zrx 318 4 = some (.iload_n 2, 0, 0) := by decide +kernel
theorem vr_318_5 : zrx 318 5 = some (.ifCond .ge 44, 0, 0) := by decide +kernel
theorem vr_318_49 : zrx 318 49 = some (.iload_n 2, 0, 0) := by decide +kernel
theorem vr_318_50 : zrx 318 50 = some (.ldc 200, 2147483639, 0) := by decide +kernel
theorem vr_318_52 : zrx 318 52 = some (.if_icmp .gt 6, 0, 0) := by decide +kernel
theorem vr_318_55 : zrx 318 55 = some (.ldc 200, 2147483639, 0) := by decide +kernel
theorem vr_318_57 : zrx 318 57 = some (.ireturn, 0, 0) := by decide +kernel
theorem vr_318_58 : zrx 318 58 = some (.iload_n 2, 0, 0) := by decide +kernel
theorem vr_318_59 : zrx 318 59 = some (.ireturn, 0, 0) := by decide +kernel
theorem vr_319_0 : zrx 319 0 = some (.iload_n 0, 0, 0) := by decide +kernel
theorem vr_319_1 : zrx 319 1 = some (.ifCond .lt 8, 0, 0) := by decide +kernel
theorem vr_319_4 : zrx 319 4 = some (.iload_n 0, 0, 0) := by decide +kernel
theorem vr_319_5 : zrx 319 5 = some (.iload_n 1, 0, 0) := by decide +kernel
theorem vr_319_6 : zrx 319 6 = some (.if_icmp .lt 10, 0, 0) := by decide +kernel
theorem vr_319_9 : zrx 319 9 = some (.aload_n 2, 0, 0) := by decide +kernel
theorem vr_319_10 : zrx 319 10 = some (.iload_n 0, 0, 0) := by decide +kernel
theorem vr_319_11 : zrx 319 11 = some (.iload_n 1, 0, 0) := by decide +kernel
theorem vr_319_16 : zrx 319 16 = some (.iload_n 0, 0, 0) := by decide +kernel
theorem vr_319_17 : zrx 319 17 = some (.ireturn, 0, 0) := by decide +kernel
theorem C_max (n : Nat) (x y : Int32) (h : List zC) (u : Nat) : zL zrx zi n 261 0 [(0, .int x), (1, .int y)] [] h u (fun o h2 _ => h2 = h ∧ o = .inl (some (.int (if x < y then y else x)))) := by
  refine zSiload (m := 1) (k := 0) vr_261_0 rfl rfl rfl (fun x40 e40 => ?_)
  cases e40
  refine zSiload (m := 1) (k := 1) vr_261_1 rfl rfl rfl (fun x41 e41 => ?_)
  cases e41
  refine zSb2 (f := fun x y => decide (x < y)) (off := 7) (t := 9) vr_261_2 rfl rfl rfl (fun x42 y42 e42 f42 q42 => ?_) (fun x42 y42 e42 f42 q42 => ?_)
  · cases e42
    cases f42
    refine zSiload (m := 1) (k := 1) vr_261_9 rfl rfl rfl (fun x43 e43 => ?_)
    cases e43
    refine zLiret vr_261_10 rfl (fun x44 e44 => ?_)
    cases e44
    refine ⟨rfl, ?_⟩
    simp_all [← Int32.not_lt]
  · cases e42
    cases f42
    refine zSiload (m := 1) (k := 0) vr_261_5 rfl rfl rfl (fun x45 e45 => ?_)
    cases e45
    refine zSgo (t := 10) vr_261_6 rfl rfl ?_
    refine zLiret vr_261_10 rfl (fun x47 e47 => ?_)
    cases e47
    refine ⟨rfl, ?_⟩
    simp_all [← Int32.not_lt]
theorem C_min (n : Nat) (x y : Int32) (h : List zC) (u : Nat) : zL zrx zi n 262 0 [(0, .int x), (1, .int y)] [] h u (fun o h2 _ => h2 = h ∧ o = .inl (some (.int (if y < x then y else x)))) := by
  refine zSiload (m := 1) (k := 0) vr_262_0 rfl rfl rfl (fun x48 e48 => ?_)
  cases e48
  refine zSiload (m := 1) (k := 1) vr_262_1 rfl rfl rfl (fun x49 e49 => ?_)
  cases e49
  refine zSb2 (f := fun x y => decide (y < x)) (off := 7) (t := 9) vr_262_2 rfl rfl rfl (fun x50 y50 e50 f50 q50 => ?_) (fun x50 y50 e50 f50 q50 => ?_)
  · cases e50
    cases f50
    refine zSiload (m := 1) (k := 1) vr_262_9 rfl rfl rfl (fun x51 e51 => ?_)
    cases e51
    refine zLiret vr_262_10 rfl (fun x52 e52 => ?_)
    cases e52
    refine ⟨rfl, ?_⟩
    simp_all [← Int32.not_lt]
  · cases e50
    cases f50
    refine zSiload (m := 1) (k := 0) vr_262_5 rfl rfl rfl (fun x53 e53 => ?_)
    cases e53
    refine zSgo (t := 10) vr_262_6 rfl rfl ?_
    refine zLiret vr_262_10 rfl (fun x55 e55 => ?_)
    cases e55
    refine ⟨rfl, ?_⟩
    simp_all [← Int32.not_lt]
theorem C_hugeL (n : Nat) (x y : Int32) (h : List zC) (u : Nat) : zL zrx zi n 318 0 [(0, .int x), (1, .int y)] [] h u (fun o h2 _ => h2 = h ∧ ∃ z : Int32, o = .inl (some (.int z))) := by
  refine zSiload (m := 1) (k := 0) vr_318_0 rfl rfl rfl (fun x56 e56 => ?_)
  cases e56
  refine zSiload (m := 1) (k := 1) vr_318_1 rfl rfl rfl (fun x57 e57 => ?_)
  cases e57
  refine zS2 (f := fun x y => .int (x + y)) vr_318_2 rfl rfl (fun x58 y58 e58 f58 => ?_)
  cases e58
  cases f58
  refine zSistore (m := 1) (k := 2) vr_318_3 rfl rfl (fun x59 e59 => ?_)
  cases e59
  show zL zrx zi _ 318 4 [(2, _), (0, _), (1, _)] [] _ _ _
  refine zSiload (m := 1) (k := 2) vr_318_4 rfl rfl rfl (fun x60 e60 => ?_)
  cases e60
  refine zSb1 (f := fun x => decide (0 ≤ x)) (off := 44) (t := 49) vr_318_5 rfl rfl rfl (fun x61 e61 q61 => ?_) (fun x61 e61 q61 => ?_)
  · cases e61
    refine zSiload (m := 1) (k := 2) vr_318_49 rfl rfl rfl (fun x62 e62 => ?_)
    cases e62
    refine zScstV (v := .int (Int32.ofNat 2147483639)) vr_318_50 rfl rfl ?_
    refine zSb2 (f := fun x y => decide (y < x)) (off := 6) (t := 58) vr_318_52 rfl rfl rfl (fun x64 y64 e64 f64 q64 => ?_) (fun x64 y64 e64 f64 q64 => ?_)
    · cases e64
      cases f64
      refine zSiload (m := 1) (k := 2) vr_318_58 rfl rfl rfl (fun x65 e65 => ?_)
      cases e65
      refine zLiret vr_318_59 rfl (fun x66 e66 => ?_)
      cases e66
      exact ⟨rfl, _, rfl⟩
    · cases e64
      cases f64
      refine zScstV (v := .int (Int32.ofNat 2147483639)) vr_318_55 rfl rfl ?_
      refine zLiret vr_318_57 rfl (fun x68 e68 => ?_)
      cases e68
      exact ⟨rfl, _, rfl⟩
  · cases e61
    exact zLnone (by decide +kernel)
theorem C_newLen (n : Nat) (x y z : Int32) (h : List zC) (u : Nat) : zL zrx zi n 317 0 [(0, .int x), (1, .int y), (2, .int z)] [] h u (fun o h2 _ => h2 = h ∧ ∃ z : Int32, o = .inl (some (.int z))) := by
  refine zSiload (m := 1) (k := 0) vr_317_0 rfl rfl rfl (fun x69 e69 => ?_)
  cases e69
  refine zSiload (m := 1) (k := 1) vr_317_1 rfl rfl rfl (fun x70 e70 => ?_)
  cases e70
  refine zSiload (m := 1) (k := 2) vr_317_2 rfl rfl rfl (fun x71 e71 => ?_)
  cases e71
  refine zScall vr_317_3 rfl rfl rfl (fun m72 _ => C_max _ _ _ _ _) (fun v72 h72 u72 q72 => ?_) (fun E72 h72 u72 q72 => ?_)
  · obtain ⟨eh72, z72⟩ := q72
    replace eh72 := eh72.symm
    subst eh72
    cases z72
    show zL zrx zi _ 317 6 [(0, _), (1, _), (2, _)] [_, _] _ _ _
    refine zS2 (f := fun x y => .int (x + y)) vr_317_6 rfl rfl (fun x73 y73 e73 f73 => ?_)
    cases e73
    cases f73
    refine zSistore (m := 1) (k := 3) vr_317_7 rfl rfl (fun x74 e74 => ?_)
    cases e74
    show zL zrx zi _ 317 8 [(3, _), (0, _), (1, _), (2, _)] [] _ _ _
    refine zSp0 (pc' := 9) (st' := .int (0) :: _) vr_317_8 rfl rfl ?_
    refine zSiload (m := 1) (k := 3) vr_317_9 rfl rfl rfl (fun x76 e76 => ?_)
    cases e76
    refine zSb2 (f := fun x y => decide (y ≤ x)) (off := 11) (t := 21) vr_317_10 rfl rfl rfl (fun x77 y77 e77 f77 q77 => ?_) (fun x77 y77 e77 f77 q77 => ?_)
    · cases e77
      cases f77
      refine zSiload (m := 1) (k := 0) vr_317_21 rfl rfl rfl (fun x78 e78 => ?_)
      cases e78
      refine zSiload (m := 1) (k := 1) vr_317_22 rfl rfl rfl (fun x79 e79 => ?_)
      cases e79
      refine zScall vr_317_23 rfl rfl rfl (fun m80 _ => C_hugeL _ _ _ _ _) (fun v80 h80 u80 q80 => ?_) (fun E80 h80 u80 q80 => ?_)
      · obtain ⟨eh80, w80, z80⟩ := q80
        replace eh80 := eh80.symm
        subst eh80
        cases z80
        show zL zrx zi _ 317 26 [(3, _), (0, _), (1, _), (2, _)] [_] _ _ _
        refine zLiret vr_317_26 rfl (fun x81 e81 => ?_)
        cases e81
        exact ⟨rfl, _, rfl⟩
      · obtain ⟨-, _, z⟩ := q80
        cases z
    · cases e77
      cases f77
      refine zSiload (m := 1) (k := 3) vr_317_13 rfl rfl rfl (fun x82 e82 => ?_)
      cases e82
      refine zScstV (v := .int (Int32.ofNat 2147483639)) vr_317_14 rfl rfl ?_
      refine zSb2 (f := fun x y => decide (y < x)) (off := 5) (t := 21) vr_317_16 rfl rfl rfl (fun x84 y84 e84 f84 q84 => ?_) (fun x84 y84 e84 f84 q84 => ?_)
      · cases e84
        cases f84
        refine zSiload (m := 1) (k := 0) vr_317_21 rfl rfl rfl (fun x85 e85 => ?_)
        cases e85
        refine zSiload (m := 1) (k := 1) vr_317_22 rfl rfl rfl (fun x86 e86 => ?_)
        cases e86
        refine zScall vr_317_23 rfl rfl rfl (fun m87 _ => C_hugeL _ _ _ _ _) (fun v87 h87 u87 q87 => ?_) (fun E87 h87 u87 q87 => ?_)
        · obtain ⟨eh87, w87, z87⟩ := q87
          replace eh87 := eh87.symm
          subst eh87
          cases z87
          show zL zrx zi _ 317 26 [(3, _), (0, _), (1, _), (2, _)] [_] _ _ _
          refine zLiret vr_317_26 rfl (fun x88 e88 => ?_)
          cases e88
          exact ⟨rfl, _, rfl⟩
        · obtain ⟨-, _, z⟩ := q87
          cases z
      · cases e84
        cases f84
        refine zSiload (m := 1) (k := 3) vr_317_19 rfl rfl rfl (fun x89 e89 => ?_)
        cases e89
        refine zLiret vr_317_20 rfl (fun x90 e90 => ?_)
        cases e90
        exact ⟨rfl, _, rfl⟩
  · obtain ⟨-, z⟩ := q72
    cases z
theorem C_copy3 (n : Nat) (q : Nat) (m : Int32) (h : List zC) (u : Nat) {l : Nat} (hq : gN h q = some l) (hl2 : l < 2147483648) : zL zrx zi n 311 0 [(0, .ref q), (1, .int m), (2, .ref 7)] [] h u (fun o h2 _ => o = .inl (some (.ref h.length)) ∧ lCopy h h2 q l m) := by
  refine zSaload (m := 1) (k := 2) vr_311_0 rfl rfl rfl ?_
  refine zScstV (v := .ref 7) vr_311_1 rfl rfl ?_
  refine zLacmNe (t := 13) vr_311_3 rfl rfl (fun a93 b93 e93 f93 q93 => ?_) (fun a93 b93 e93 f93 q93 => ?_)
  · cases e93
    cases f93
    refine zSaload (m := 1) (k := 2) vr_311_13 rfl rfl rfl ?_
    exact zLnone (by decide +kernel)
  · cases e93
    cases f93
    refine zSiload (m := 1) (k := 1) vr_311_6 rfl rfl rfl (fun x95 e95 => ?_)
    cases e95
    refine zLanew vr_311_7 rfl (fun m96 k96 u96 e96 n96 g96 => ?_)
    cases e96
    refine zSgo (t := 24) vr_311_10 rfl rfl ?_
    refine zSastore (m := 1) (k := 3) vr_311_24 rfl rfl ?_
    show zL zrx zi _ 311 25 [(3, _), (0, _), (1, _), (2, _)] [] _ _ _
    refine zSaload (m := 1) (k := 0) vr_311_25 rfl rfl rfl ?_
    refine zSp0 (pc' := 27) (st' := .int (0) :: _) vr_311_26 rfl rfl ?_
    refine zSaload (m := 1) (k := 3) vr_311_27 rfl rfl rfl ?_
    refine zSp0 (pc' := 29) (st' := .int (0) :: _) vr_311_28 rfl rfl ?_
    refine zSaload (m := 1) (k := 0) vr_311_29 rfl rfl rfl ?_
    refine zLlen vr_311_30 rfl (fun p104 m104 e104 g104 => ?_)
    cases e104
    refine zSiload (m := 1) (k := 1) vr_311_31 rfl rfl rfl (fun x105 e105 => ?_)
    cases e105
    refine zScall vr_311_32 rfl rfl rfl (fun m106 _ => C_min _ _ _ _ _) (fun v106 h106 u106 q106 => ?_) (fun E106 h106 u106 q106 => ?_)
    · obtain ⟨eh106, z106⟩ := q106
      replace eh106 := eh106.symm
      subst eh106
      cases z106
      show zL zrx zi _ 311 35 [(3, _), (0, _), (1, _), (2, _)] [_, _, _, _, _] _ _ _
      refine zLarc vr_311_35 rfl (fun p107 d107 x107 y107 m107 k107 e107 f107 i107 j107 l107 n107 o107 s107 c107 => ?_)
      cases e107
      cases f107
      cases i107
      cases j107
      cases l107
      refine zSaload (m := 1) (k := 3) vr_311_38 rfl rfl rfl ?_
      refine zSaret vr_311_39 rfl ?_
      first
        | exact ⟨rfl, copy_end hq hl2 n96 g96 g104 c107⟩
        | exact absurd rfl q93
    · obtain ⟨-, z⟩ := q106
      cases z
theorem C_copy2 (n : Nat) (q : Nat) (m : Int32) (h : List zC) (u : Nat) {l : Nat} (hq : gN h q = some l) (hl2 : l < 2147483648) : zL zrx zi n 310 0 [(0, .ref q), (1, .int m)] [] h u (fun o h2 _ => o = .inl (some (.ref h.length)) ∧ lCopy h h2 q l m) := by
  refine zSaload (m := 1) (k := 0) vr_310_0 rfl rfl rfl ?_
  refine zSiload (m := 1) (k := 1) vr_310_1 rfl rfl rfl (fun x111 e111 => ?_)
  cases e111
  refine zSaload (m := 1) (k := 0) vr_310_2 rfl rfl rfl ?_
  refine zLgcl vr_310_3 rfl (fun p113 e113 t113 => ?_)
  cases e113
  refine zScall vr_310_6 rfl rfl rfl (fun m114 _ => C_copy3 _ _ _ _ _ hq hl2) (fun v114 h114 u114 q114 => ?_) (fun E114 h114 u114 q114 => ?_)
  · obtain ⟨z114, k1⟩ := q114
    cases z114
    show zL zrx zi _ 310 9 [(0, _), (1, _)] [_] _ _ _
    refine zSaret vr_310_9 rfl ?_
    exact ⟨rfl, k1⟩
  · obtain ⟨z, -⟩ := q114
    cases z
theorem C_grow2 (n : Nat) (L : Nat) (m : Int32) (h : List zC) (u : Nat) {el l : Nat} (hL : gF h L 1 = some (.ref el)) (hn : gN h el = some l) (hl2 : l < 2147483648) : zL zrx zi n 302 0 [(0, .ref L), (1, .int m)] [] h u (fun o h2 _ => ∃ r, o = .inl (some r) ∧ lGrow h h2 L el l r) := by
  refine zSaload (m := 1) (k := 0) vr_302_0 rfl rfl rfl ?_
  refine zLget vr_302_1 rfl (fun p117 w117 e117 t117 g117 => ?_)
  cases e117
  first | (rw [hL] at g117; cases g117) | skip
  refine zLlen vr_302_4 rfl (fun p118 m118 e118 g118 => ?_)
  cases e118
  refine zSistore (m := 1) (k := 2) vr_302_5 rfl rfl (fun x119 e119 => ?_)
  cases e119
  show zL zrx zi _ 302 6 [(2, _), (0, _), (1, _)] [] _ _ _
  refine zSiload (m := 1) (k := 2) vr_302_6 rfl rfl rfl (fun x120 e120 => ?_)
  cases e120
  refine zSb1 (f := fun x => decide (0 < x)) (off := 13) (t := 20) vr_302_7 rfl rfl rfl (fun x121 e121 q121 => ?_) (fun x121 e121 q121 => ?_)
  · cases e121
    refine zSiload (m := 1) (k := 2) vr_302_20 rfl rfl rfl (fun x122 e122 => ?_)
    cases e122
    refine zSiload (m := 1) (k := 1) vr_302_21 rfl rfl rfl (fun x123 e123 => ?_)
    cases e123
    refine zSiload (m := 1) (k := 2) vr_302_22 rfl rfl rfl (fun x124 e124 => ?_)
    cases e124
    refine zS2 (f := fun x y => .int (x - y)) vr_302_23 rfl rfl (fun x125 y125 e125 f125 => ?_)
    cases e125
    cases f125
    refine zSiload (m := 1) (k := 2) vr_302_24 rfl rfl rfl (fun x126 e126 => ?_)
    cases e126
    refine zSp0 (pc' := 26) (st' := .int (1) :: _) vr_302_25 rfl rfl ?_
    refine zS2 (f := fun x y => .int (x >>> (y &&& 31))) vr_302_26 rfl rfl (fun x128 y128 e128 f128 => ?_)
    cases e128
    cases f128
    refine zScall vr_302_27 rfl rfl rfl (fun m129 _ => C_newLen _ _ _ _ _ _) (fun v129 h129 u129 q129 => ?_) (fun E129 h129 u129 q129 => ?_)
    · obtain ⟨eh129, w129, z129⟩ := q129
      replace eh129 := eh129.symm
      subst eh129
      cases z129
      show zL zrx zi _ 302 30 [(2, _), (0, _), (1, _)] [_] _ _ _
      refine zSistore (m := 1) (k := 3) vr_302_30 rfl rfl (fun x130 e130 => ?_)
      cases e130
      show zL zrx zi _ 302 31 [(3, _), (2, _), (0, _), (1, _)] [] _ _ _
      refine zSaload (m := 1) (k := 0) vr_302_31 rfl rfl rfl ?_
      refine zSaload (m := 1) (k := 0) vr_302_32 rfl rfl rfl ?_
      refine zLget vr_302_33 rfl (fun p133 w133 e133 t133 g133 => ?_)
      cases e133
      first | (rw [hL] at g133; cases g133) | skip
      refine zSiload (m := 1) (k := 3) vr_302_36 rfl rfl rfl (fun x134 e134 => ?_)
      cases e134
      refine zScall vr_302_37 rfl rfl rfl (fun m135 _ => C_copy2 _ _ _ _ _ hn hl2) (fun v135 h135 u135 q135 => ?_) (fun E135 h135 u135 q135 => ?_)
      · obtain ⟨z135, k1⟩ := q135
        cases z135
        show zL zrx zi _ 302 40 [(3, _), (2, _), (0, _), (1, _)] [_, _] _ _ _
        refine zSdupx vr_302_40 rfl rfl ?_
        refine zLput vr_302_41 rfl (fun p137 k137 e137 t137 g137 => ?_)
        cases e137
        refine zSaret vr_302_44 rfl ?_
        exact ⟨_, rfl, grow_end hL k1.1 k1.2.1 k1.2.2.2.1 k1.2.2.2.2.1 k1.2.2.2.2.2 g137⟩
      · obtain ⟨z, -⟩ := q135
        cases z
    · obtain ⟨-, _, z⟩ := q129
      cases z
  · cases e121
    refine zSaload (m := 1) (k := 0) vr_302_10 rfl rfl rfl ?_
    refine zLget vr_302_11 rfl (fun p140 w140 e140 t140 g140 => ?_)
    cases e140
    first | (rw [hL] at g140; cases g140) | skip
    refine zScstV (v := .ref 4) vr_302_14 rfl rfl ?_
    refine zLacmEq (t := 45) vr_302_17 rfl rfl (fun a142 b142 e142 f142 q142 => ?_) (fun a142 b142 e142 f142 q142 => ?_)
    · cases e142
      cases f142
      refine zSaload (m := 1) (k := 0) vr_302_45 rfl rfl rfl ?_
      refine zSp0 (pc' := 48) (st' := .int (10) :: _) vr_302_46 rfl rfl ?_
      refine zSiload (m := 1) (k := 1) vr_302_48 rfl rfl rfl (fun x145 e145 => ?_)
      cases e145
      refine zScall vr_302_49 rfl rfl rfl (fun m146 _ => C_max _ _ _ _ _) (fun v146 h146 u146 q146 => ?_) (fun E146 h146 u146 q146 => ?_)
      · obtain ⟨eh146, z146⟩ := q146
        replace eh146 := eh146.symm
        subst eh146
        cases z146
        show zL zrx zi _ 302 52 [(2, _), (0, _), (1, _)] [_, _] _ _ _
        refine zLanew vr_302_52 rfl (fun m147 k147 u147 e147 n147 g147 => ?_)
        cases e147
        refine zSdupx vr_302_55 rfl rfl ?_
        refine zLput vr_302_56 rfl (fun p149 k149 e149 t149 g149 => ?_)
        cases e149
        refine zSaret vr_302_59 rfl ?_
        have hz : l = 0 := by
          have h1 := g118
          rw [hn] at h1
          cases h1
          have h2 := q121
          have h3 := (toNat_ofNat hl2).2
          simp only [decide_eq_true_eq, i32_lt] at h2
          have z0 : (0 : Int32).toInt = 0 := rfl
          omega
        exact ⟨_, rfl, grow_end hL g147.ext g147.len g147.cn.1 g147.cn.2 (fun k _ k2 => absurd k2 (by omega)) g149⟩
      · obtain ⟨-, z⟩ := q146
        cases z
    · cases e142
      cases f142
      refine zSiload (m := 1) (k := 2) vr_302_20 rfl rfl rfl (fun x151 e151 => ?_)
      cases e151
      refine zSiload (m := 1) (k := 1) vr_302_21 rfl rfl rfl (fun x152 e152 => ?_)
      cases e152
      refine zSiload (m := 1) (k := 2) vr_302_22 rfl rfl rfl (fun x153 e153 => ?_)
      cases e153
      refine zS2 (f := fun x y => .int (x - y)) vr_302_23 rfl rfl (fun x154 y154 e154 f154 => ?_)
      cases e154
      cases f154
      refine zSiload (m := 1) (k := 2) vr_302_24 rfl rfl rfl (fun x155 e155 => ?_)
      cases e155
      refine zSp0 (pc' := 26) (st' := .int (1) :: _) vr_302_25 rfl rfl ?_
      refine zS2 (f := fun x y => .int (x >>> (y &&& 31))) vr_302_26 rfl rfl (fun x157 y157 e157 f157 => ?_)
      cases e157
      cases f157
      refine zScall vr_302_27 rfl rfl rfl (fun m158 _ => C_newLen _ _ _ _ _ _) (fun v158 h158 u158 q158 => ?_) (fun E158 h158 u158 q158 => ?_)
      · obtain ⟨eh158, w158, z158⟩ := q158
        replace eh158 := eh158.symm
        subst eh158
        cases z158
        show zL zrx zi _ 302 30 [(2, _), (0, _), (1, _)] [_] _ _ _
        refine zSistore (m := 1) (k := 3) vr_302_30 rfl rfl (fun x159 e159 => ?_)
        cases e159
        show zL zrx zi _ 302 31 [(3, _), (2, _), (0, _), (1, _)] [] _ _ _
        refine zSaload (m := 1) (k := 0) vr_302_31 rfl rfl rfl ?_
        refine zSaload (m := 1) (k := 0) vr_302_32 rfl rfl rfl ?_
        refine zLget vr_302_33 rfl (fun p162 w162 e162 t162 g162 => ?_)
        cases e162
        first | (rw [hL] at g162; cases g162) | skip
        refine zSiload (m := 1) (k := 3) vr_302_36 rfl rfl rfl (fun x163 e163 => ?_)
        cases e163
        refine zScall vr_302_37 rfl rfl rfl (fun m164 _ => C_copy2 _ _ _ _ _ hn hl2) (fun v164 h164 u164 q164 => ?_) (fun E164 h164 u164 q164 => ?_)
        · obtain ⟨z164, k1⟩ := q164
          cases z164
          show zL zrx zi _ 302 40 [(3, _), (2, _), (0, _), (1, _)] [_, _] _ _ _
          refine zSdupx vr_302_40 rfl rfl ?_
          refine zLput vr_302_41 rfl (fun p166 k166 e166 t166 g166 => ?_)
          cases e166
          refine zSaret vr_302_44 rfl ?_
          exact ⟨_, rfl, grow_end hL k1.1 k1.2.1 k1.2.2.2.1 k1.2.2.2.2.1 k1.2.2.2.2.2 g166⟩
        · obtain ⟨z, -⟩ := q164
          cases z
      · obtain ⟨-, _, z⟩ := q158
        cases z
theorem C_grow1 (n : Nat) (L : Nat) (h : List zC) (u : Nat) {el l : Nat} (hL : gF h L 1 = some (.ref el)) (hn : gN h el = some l) (hl2 : l < 2147483648) : zL zrx zi n 303 0 [(0, .ref L)] [] h u (fun o h2 _ => ∃ r, o = .inl (some r) ∧ lGrow h h2 L el l r) := by
  refine zSaload (m := 1) (k := 0) vr_303_0 rfl rfl rfl ?_
  refine zSaload (m := 1) (k := 0) vr_303_1 rfl rfl rfl ?_
  refine zLget vr_303_2 rfl (fun p170 w170 e170 t170 g170 => ?_)
  cases e170
  refine zSp0 (pc' := 6) (st' := .int (1) :: _) vr_303_5 rfl rfl ?_
  refine zS2 (f := fun x y => .int (x + y)) vr_303_6 rfl rfl (fun x172 y172 e172 f172 => ?_)
  cases e172
  cases f172
  refine zScall vr_303_7 rfl rfl rfl (fun m173 _ => C_grow2 _ _ _ _ _ hL hn hl2) (fun v173 h173 u173 q173 => ?_) (fun E173 h173 u173 q173 => ?_)
  · obtain ⟨r173, z173, k1⟩ := q173
    cases z173
    show zL zrx zi _ 303 10 [(0, _)] [_] _ _ _
    refine zSaret vr_303_10 rfl ?_
    exact ⟨_, rfl, k1⟩
  · obtain ⟨r, z, -⟩ := q173
    cases z
theorem C_add3 (n : Nat) (L e el : Nat) (s : Int32) (h : List zC) (u : Nat) {l : Nat} (hL : gF h L 1 = some (.ref el)) (hn : gN h el = some l) (hl2 : l < 2147483648) (tE : ∃ t, gT h el = some t ∧ 93 ≤ t) : zL zrx zi n 308 0 [(0, .ref L), (1, .ref e), (2, .ref el), (3, .int s)] [] h u (fun o h2 _ => o = .inl none ∧ lAdd h h2 L el s e) := by
  refine zSiload (m := 1) (k := 3) vr_308_0 rfl rfl rfl (fun x175 e175 => ?_)
  cases e175
  refine zSaload (m := 1) (k := 2) vr_308_1 rfl rfl rfl ?_
  refine zLlen vr_308_2 rfl (fun p177 m177 e177 g177 => ?_)
  cases e177
  have hb := g177
  rw [hn] at hb
  cases hb
  refine zSb2 (f := fun x y => decide (¬ x = y)) (off := 8) (t := 11) vr_308_3 rfl rfl rfl (fun x178 y178 e178 f178 q178 => ?_) (fun x178 y178 e178 f178 q178 => ?_)
  · cases e178
    cases f178
    refine zSaload (m := 1) (k := 2) vr_308_11 rfl rfl rfl ?_
    refine zSiload (m := 1) (k := 3) vr_308_12 rfl rfl rfl (fun x180 e180 => ?_)
    cases e180
    refine zSaload (m := 1) (k := 1) vr_308_13 rfl rfl rfl ?_
    refine zLaast2 vr_308_14 rfl (fun p182 x182 z182 k182 e182 f182 d182 c182 t182 l182 g182 => ?_)
    cases e182
    cases f182
    cases d182
    refine zSaload (m := 1) (k := 0) vr_308_15 rfl rfl rfl ?_
    refine zSiload (m := 1) (k := 3) vr_308_16 rfl rfl rfl (fun x184 e184 => ?_)
    cases e184
    refine zSp0 (pc' := 18) (st' := .int (1) :: _) vr_308_17 rfl rfl ?_
    refine zS2 (f := fun x y => .int (x + y)) vr_308_18 rfl rfl (fun x186 y186 e186 f186 => ?_)
    cases e186
    cases f186
    refine zLput vr_308_19 rfl (fun p187 k187 e187 t187 g187 => ?_)
    cases e187
    refine zSvoid vr_308_22 rfl ?_
    first
      | exact ⟨rfl, add_end1 hL t187 t182 c182 g182 g187⟩
      | exact ⟨rfl, add_end2 hL hn hl2 (by simpa using q178) k1 t187 tE l182 c182 g182 g187⟩
  · cases e178
    cases f178
    refine zSaload (m := 1) (k := 0) vr_308_6 rfl rfl rfl ?_
    refine zScall vr_308_7 rfl rfl rfl (fun m190 _ => C_grow1 _ _ _ _ hL hn hl2) (fun v190 h190 u190 q190 => ?_) (fun E190 h190 u190 q190 => ?_)
    · obtain ⟨r190, z190, k1⟩ := q190
      cases z190
      obtain ⟨k2, k3, k4⟩ := k1
      cases k3
      have k1 : lGrow h _ L el l (.ref h.length) := ⟨k2, rfl, k4⟩
      show zL zrx zi _ 308 10 [(0, _), (1, _), (2, _), (3, _)] [_] _ _ _
      refine zSastore (m := 1) (k := 2) vr_308_10 rfl rfl ?_
      show zL zrx zi _ 308 11 [(2, _), (0, _), (1, _), (3, _)] [] _ _ _
      refine zSaload (m := 1) (k := 2) vr_308_11 rfl rfl rfl ?_
      refine zSiload (m := 1) (k := 3) vr_308_12 rfl rfl rfl (fun x193 e193 => ?_)
      cases e193
      refine zSaload (m := 1) (k := 1) vr_308_13 rfl rfl rfl ?_
      refine zLaast2 vr_308_14 rfl (fun p195 x195 z195 k195 e195 f195 d195 c195 t195 l195 g195 => ?_)
      cases e195
      cases f195
      cases d195
      refine zSaload (m := 1) (k := 0) vr_308_15 rfl rfl rfl ?_
      refine zSiload (m := 1) (k := 3) vr_308_16 rfl rfl rfl (fun x197 e197 => ?_)
      cases e197
      refine zSp0 (pc' := 18) (st' := .int (1) :: _) vr_308_17 rfl rfl ?_
      refine zS2 (f := fun x y => .int (x + y)) vr_308_18 rfl rfl (fun x199 y199 e199 f199 => ?_)
      cases e199
      cases f199
      refine zLput vr_308_19 rfl (fun p200 k200 e200 t200 g200 => ?_)
      cases e200
      refine zSvoid vr_308_22 rfl ?_
      first
        | exact ⟨rfl, add_end1 hL t200 t195 c195 g195 g200⟩
        | exact ⟨rfl, add_end2 hL hn hl2 (by simpa using q178) k1 t200 tE l195 c195 g195 g200⟩
    · obtain ⟨r, z, -⟩ := q190
      cases z
theorem C_add (n : Nat) (L e : Nat) (h : List zC) (u : Nat) {el l : Nat} {s : Int32} (hL : gF h L 1 = some (.ref el)) (hs : gF h L 2 = some (.int s)) (hn : gN h el = some l) (hl2 : l < 2147483648) (tE : ∃ t, gT h el = some t ∧ 93 ≤ t) : zL zrx zi n 309 0 [(0, .ref L), (1, .ref e)] [] h u (fun o h2 _ => o = .inl (some (.int 1)) ∧ lAdd h h2 L el s e) := by
  refine zSaload (m := 1) (k := 0) vr_309_0 rfl rfl rfl ?_
  refine zSdup vr_309_1 rfl ?_
  refine zLgmod vr_309_2 rfl (fun p204 w204 e204 t204 g204 => ?_)
  cases e204
  first | (rw [hL1] at g204; cases g204) | (rw [hs1] at g204; cases g204) | skip
  refine zSp0 (pc' := 6) (st' := .int (1) :: _) vr_309_5 rfl rfl ?_
  refine zS2 (f := fun x y => .int (x + y)) vr_309_6 rfl rfl (fun x206 y206 e206 f206 => ?_)
  cases e206
  cases f206
  refine zLpmod vr_309_7 rfl (fun p207 k207 e207 t207 g207 => ?_)
  cases e207
  have p0 := g207
  have hL1 := (p0.2.1 L 1).trans ((if_neg (by omega)).trans hL)
  have hs1 := (p0.2.1 L 2).trans ((if_neg (by omega)).trans hs)
  refine zSaload (m := 1) (k := 0) vr_309_10 rfl rfl rfl ?_
  refine zSaload (m := 1) (k := 1) vr_309_11 rfl rfl rfl ?_
  refine zSaload (m := 1) (k := 0) vr_309_12 rfl rfl rfl ?_
  refine zLget vr_309_13 rfl (fun p211 w211 e211 t211 g211 => ?_)
  cases e211
  first | (rw [hL1] at g211; cases g211) | (rw [hs1] at g211; cases g211) | skip
  refine zSaload (m := 1) (k := 0) vr_309_16 rfl rfl rfl ?_
  refine zLget vr_309_17 rfl (fun p213 w213 e213 t213 g213 => ?_)
  cases e213
  first | (rw [hL1] at g213; cases g213) | (rw [hs1] at g213; cases g213) | skip
  refine zScall vr_309_20 rfl rfl rfl (fun m214 _ => C_add3 _ _ _ _ _ _ _ hL1 ((p0.2.2.2 el).trans hn) hl2 (by rw [p0.2.2.1]; exact tE)) (fun v214 h214 u214 q214 => ?_) (fun E214 h214 u214 q214 => ?_)
  · obtain ⟨z214, k1⟩ := q214
    cases z214
    show zL zrx zi _ 309 23 [(0, _), (1, _)] [] _ _ _
    refine zSp0 (pc' := 24) (st' := .int (1) :: _) vr_309_23 rfl rfl ?_
    refine zLiret vr_309_24 rfl (fun x216 e216 => ?_)
    cases e216
    exact ⟨rfl, k1.pre p0⟩
  · obtain ⟨z, -⟩ := q214
    cases z
theorem C_lsize (n : Nat) (L : Nat) (h : List zC) (u : Nat) {s : Int32} (hs : gF h L 2 = some (.int s)) : zL zrx zi n 304 0 [(0, .ref L)] [] h u (fun o h2 _ => h2 = h ∧ o = .inl (some (.int s))) := by
  refine zSaload (m := 1) (k := 0) vr_304_0 rfl rfl rfl ?_
  refine zLget vr_304_1 rfl (fun p218 w218 e218 t218 g218 => ?_)
  cases e218
  first | (rw [hs] at g218; cases g218) | skip
  refine zLiret vr_304_4 rfl (fun x219 e219 => ?_)
  cases e219
  exact ⟨rfl, rfl⟩
theorem C_chk3 (n : Nat) (x y : Int32) (h : List zC) (u : Nat) : zL zrx zi n 319 0 [(0, .int x), (1, .int y), (2, .null)] [] h u (fun o h2 _ => h2 = h ∧ o = .inl (some (.int x))) := by
  refine zSiload (m := 1) (k := 0) vr_319_0 rfl rfl rfl (fun x220 e220 => ?_)
  cases e220
  refine zSb1 (f := fun x => decide (x < 0)) (off := 8) (t := 9) vr_319_1 rfl rfl rfl (fun x221 e221 q221 => ?_) (fun x221 e221 q221 => ?_)
  · cases e221
    refine zSaload (m := 1) (k := 2) vr_319_9 rfl rfl rfl ?_
    refine zSiload (m := 1) (k := 0) vr_319_10 rfl rfl rfl (fun x223 e223 => ?_)
    cases e223
    refine zSiload (m := 1) (k := 1) vr_319_11 rfl rfl rfl (fun x224 e224 => ?_)
    cases e224
    exact zLnone (by decide +kernel)
  · cases e221
    refine zSiload (m := 1) (k := 0) vr_319_4 rfl rfl rfl (fun x225 e225 => ?_)
    cases e225
    refine zSiload (m := 1) (k := 1) vr_319_5 rfl rfl rfl (fun x226 e226 => ?_)
    cases e226
    refine zSb2 (f := fun x y => decide (x < y)) (off := 10) (t := 16) vr_319_6 rfl rfl rfl (fun x227 y227 e227 f227 q227 => ?_) (fun x227 y227 e227 f227 q227 => ?_)
    · cases e227
      cases f227
      refine zSiload (m := 1) (k := 0) vr_319_16 rfl rfl rfl (fun x228 e228 => ?_)
      cases e228
      refine zLiret vr_319_17 rfl (fun x229 e229 => ?_)
      cases e229
      exact ⟨rfl, rfl⟩
    · cases e227
      cases f227
      refine zSaload (m := 1) (k := 2) vr_319_9 rfl rfl rfl ?_
      refine zSiload (m := 1) (k := 0) vr_319_10 rfl rfl rfl (fun x231 e231 => ?_)
      cases e231
      refine zSiload (m := 1) (k := 1) vr_319_11 rfl rfl rfl (fun x232 e232 => ?_)
      cases e232
      exact zLnone (by decide +kernel)
theorem C_chk2 (n : Nat) (x y : Int32) (h : List zC) (u : Nat) : zL zrx zi n 316 0 [(0, .int x), (1, .int y)] [] h u (fun o h2 _ => h2 = h ∧ o = .inl (some (.int x))) := by
  refine zSiload (m := 1) (k := 0) vr_316_0 rfl rfl rfl (fun x233 e233 => ?_)
  cases e233
  refine zSiload (m := 1) (k := 1) vr_316_1 rfl rfl rfl (fun x234 e234 => ?_)
  cases e234
  refine zSp0 vr_316_2 rfl rfl ?_
  refine zScall vr_316_3 rfl rfl rfl (fun m236 _ => C_chk3 _ _ _ _ _) (fun v236 h236 u236 q236 => ?_) (fun E236 h236 u236 q236 => ?_)
  · obtain ⟨eh236, z236⟩ := q236
    replace eh236 := eh236.symm
    subst eh236
    cases z236
    show zL zrx zi _ 316 6 [(0, _), (1, _)] [_] _ _ _
    refine zLiret vr_316_6 rfl (fun x237 e237 => ?_)
    cases e237
    exact ⟨rfl, rfl⟩
  · obtain ⟨-, z⟩ := q236
    cases z
theorem C_elem (n : Nat) (L : Nat) (k : Int32) (h : List zC) (u : Nat) {el : Nat} (hL : gF h L 1 = some (.ref el)) : zL zrx zi n 305 0 [(0, .ref L), (1, .int k)] [] h u (fun o h2 _ => h2 = h ∧ ¬ k < 0 ∧ ∃ w, o = .inl (some w) ∧ gF h el k.toNatClampNeg = some w) := by
  refine zSaload (m := 1) (k := 0) vr_305_0 rfl rfl rfl ?_
  refine zLget vr_305_1 rfl (fun p239 w239 e239 t239 g239 => ?_)
  cases e239
  first | (rw [hL] at g239; cases g239) | skip
  refine zSiload (m := 1) (k := 1) vr_305_4 rfl rfl rfl (fun x240 e240 => ?_)
  cases e240
  refine zLaald vr_305_5 rfl (fun p241 x241 w241 e241 f241 c241 t241 g241 => ?_)
  cases e241
  cases f241
  first | (rw [hL] at g241; cases g241) | skip
  refine zSaret vr_305_6 rfl ?_
  exact ⟨rfl, c241, _, rfl, g241⟩
theorem C_get (n : Nat) (L : Nat) (k : Int32) (h : List zC) (u : Nat) {el : Nat} {s : Int32} (hL : gF h L 1 = some (.ref el)) (hs : gF h L 2 = some (.int s)) : zL zrx zi n 306 0 [(0, .ref L), (1, .int k)] [] h u (fun o h2 _ => h2 = h ∧ ¬ k < 0 ∧ ∃ w, o = .inl (some w) ∧ gF h el k.toNatClampNeg = some w) := by
  refine zSiload (m := 1) (k := 1) vr_306_0 rfl rfl rfl (fun x243 e243 => ?_)
  cases e243
  refine zSaload (m := 1) (k := 0) vr_306_1 rfl rfl rfl ?_
  refine zLget vr_306_2 rfl (fun p245 w245 e245 t245 g245 => ?_)
  cases e245
  first | (rw [hs] at g245; cases g245) | skip
  refine zScall vr_306_5 rfl rfl rfl (fun m246 _ => C_chk2 _ _ _ _ _) (fun v246 h246 u246 q246 => ?_) (fun E246 h246 u246 q246 => ?_)
  · obtain ⟨eh246, z246⟩ := q246
    replace eh246 := eh246.symm
    subst eh246
    cases z246
    show zL zrx zi _ 306 8 [(0, _), (1, _)] [_] _ _ _
    refine zSpop vr_306_8 rfl ?_
    refine zSaload (m := 1) (k := 0) vr_306_9 rfl rfl rfl ?_
    refine zSiload (m := 1) (k := 1) vr_306_10 rfl rfl rfl (fun x249 e249 => ?_)
    cases e249
    refine zScall vr_306_11 rfl rfl rfl (fun m250 _ => C_elem _ _ _ _ _ hL) (fun v250 h250 u250 q250 => ?_) (fun E250 h250 u250 q250 => ?_)
    · obtain ⟨eh250, k1, w250, z250, k2⟩ := q250
      replace eh250 := eh250.symm
      subst eh250
      cases z250
      show zL zrx zi _ 306 14 [(0, _), (1, _)] [_] _ _ _
      refine zSaret vr_306_14 rfl ?_
      exact ⟨rfl, k1, _, rfl, k2⟩
    · obtain ⟨-, -, w, z, -⟩ := q250
      cases z
  · obtain ⟨-, z⟩ := q246
    cases z
theorem C_ns {T : Nat → Int32} {L : Nat} : ∀ (n p : Nat) (h : List zC) (u : Nat), DT h T L p → zL zrx zi n 33 0 [(0, .ref 183)] [] h u (fun o h2 _ => PL h h2 (skp T L p) ∧ o = .inl (some (.int (sg T L p))))
  | 0, _, _, _, _ => trivial
  | n + 1, p, h, u, d => by
    obtain ⟨d1, d2, d3, d4, d5, d6⟩ := d
    have kp := toNat_ofNat (m := p) (by omega)
    have cl := on_lt (a := L) (b := p) (by omega) (by omega)
    refine zLp vr_33_0 rfl rfl ?_
    refine zLget vr_33_1 rfl (fun p252 w252 e252 t252 g252 => ?_)
    cases e252
    first | (rw [d2] at g252; cases g252) | (rw [d3] at g252; cases g252) | (rw [(st_183_0 d1)] at g252; cases g252) | (rw [hT] at g252; cases g252) | skip
    refine zSaload (m := 1) (k := 0) vr_33_4 rfl rfl rfl ?_
    refine zLget vr_33_5 rfl (fun p254 w254 e254 t254 g254 => ?_)
    cases e254
    first | (rw [d2] at g254; cases g254) | (rw [d3] at g254; cases g254) | (rw [(st_183_0 d1)] at g254; cases g254) | (rw [hT] at g254; cases g254) | skip
    refine zSb2 (f := fun x y => decide (y ≤ x)) (off := 30) (t := 38) vr_33_8 rfl rfl rfl (fun x255 y255 e255 f255 q255 => ?_) (fun x255 y255 e255 f255 q255 => ?_)
    · cases e255
      cases f255
      have c255 := of_decide_eq_true q255
      refine zSaload (m := 1) (k := 0) vr_33_38 rfl rfl rfl ?_
      refine zLget vr_33_39 rfl (fun p257 w257 e257 t257 g257 => ?_)
      cases e257
      first | (rw [d2] at g257; cases g257) | (rw [d3] at g257; cases g257) | (rw [(st_183_0 d1)] at g257; cases g257) | (rw [hT] at g257; cases g257) | skip
      refine zSaload (m := 1) (k := 0) vr_33_42 rfl rfl rfl ?_
      refine zLget vr_33_43 rfl (fun p259 w259 e259 t259 g259 => ?_)
      cases e259
      first | (rw [d2] at g259; cases g259) | (rw [d3] at g259; cases g259) | (rw [(st_183_0 d1)] at g259; cases g259) | (rw [hT] at g259; cases g259) | skip
      refine zSb2 (f := fun x y => decide (y ≤ x)) (off := 15) (t := 61) vr_33_46 rfl rfl rfl (fun x260 y260 e260 f260 q260 => ?_) (fun x260 y260 e260 f260 q260 => ?_)
      · cases e260
        cases f260
        have c260 := of_decide_eq_true q260
        refine zSp0 (pc' := 62) (st' := .int (-1) :: _) vr_33_61 rfl rfl ?_
        refine zLiret vr_33_62 rfl (fun x262 e262 => ?_)
        cases e262
        first
          | (have e : skp T L p = p := skp_n (fun z => c201 z.2)
             unfold sg
             rw [e, if_pos hp]
             exact ⟨PL.refl d3, rfl⟩)
          | (have e : skp T L p = p := skp_n (fun z => by have y := c255; rw [cl.2] at y; omega)
             unfold sg
             rw [e, if_neg (by have y := c260; rw [cl.2] at y; omega)]
             exact ⟨PL.refl d3, rfl⟩)
          | (exfalso
             have y := c260
             rw [cl.2] at y
             omega)
          | (exfalso
             have y := c255
             rw [cl.2] at y
             omega)
      · cases e260
        cases f260
        have c260 := ndc q260
        have hp : p < L := by
          have y := c260
          rw [cl.2] at y
          omega
        have hT : gF h 184 (Int32.ofNat p).toNatClampNeg = some (.int (T p)) := by
          rw [kp.1]
          exact d6 p hp
        refine zSaload (m := 1) (k := 0) vr_33_49 rfl rfl rfl ?_
        refine zLget vr_33_50 rfl (fun p264 w264 e264 t264 g264 => ?_)
        cases e264
        first | (rw [d2] at g264; cases g264) | (rw [d3] at g264; cases g264) | (rw [(st_183_0 d1)] at g264; cases g264) | (rw [hT] at g264; cases g264) | skip
        refine zSaload (m := 1) (k := 0) vr_33_53 rfl rfl rfl ?_
        refine zLget vr_33_54 rfl (fun p266 w266 e266 t266 g266 => ?_)
        cases e266
        first | (rw [d2] at g266; cases g266) | (rw [d3] at g266; cases g266) | (rw [(st_183_0 d1)] at g266; cases g266) | (rw [hT] at g266; cases g266) | skip
        refine zLiald vr_33_57 rfl (fun p267 x267 w267 e267 f267 c267 t267 g267 => ?_)
        cases e267
        cases f267
        first | (rw [d2] at g267; cases g267) | (rw [d3] at g267; cases g267) | (rw [(st_183_0 d1)] at g267; cases g267) | (rw [hT] at g267; cases g267) | skip
        refine zSgo (t := 62) vr_33_58 rfl rfl ?_
        refine zLiret vr_33_62 rfl (fun x269 e269 => ?_)
        cases e269
        first
          | (have e : skp T L p = p := skp_n (fun z => c201 z.2)
             unfold sg
             rw [e, if_pos hp]
             exact ⟨PL.refl d3, rfl⟩)
          | (have e : skp T L p = p := skp_n (fun z => by have y := c255; rw [cl.2] at y; omega)
             unfold sg
             rw [e, if_neg (by have y := c260; rw [cl.2] at y; omega)]
             exact ⟨PL.refl d3, rfl⟩)
          | (exfalso
             have y := c260
             rw [cl.2] at y
             omega)
          | (exfalso
             have y := c255
             rw [cl.2] at y
             omega)
    · cases e255
      cases f255
      have c255 := ndc q255
      have hp : p < L := by
        have y := c255
        rw [cl.2] at y
        omega
      have hT : gF h 184 (Int32.ofNat p).toNatClampNeg = some (.int (T p)) := by
        rw [kp.1]
        exact d6 p hp
      refine zSaload (m := 1) (k := 0) vr_33_11 rfl rfl rfl ?_
      refine zLget vr_33_12 rfl (fun p271 w271 e271 t271 g271 => ?_)
      cases e271
      first | (rw [d2] at g271; cases g271) | (rw [d3] at g271; cases g271) | (rw [(st_183_0 d1)] at g271; cases g271) | (rw [hT] at g271; cases g271) | skip
      refine zSaload (m := 1) (k := 0) vr_33_15 rfl rfl rfl ?_
      refine zLget vr_33_16 rfl (fun p273 w273 e273 t273 g273 => ?_)
      cases e273
      first | (rw [d2] at g273; cases g273) | (rw [d3] at g273; cases g273) | (rw [(st_183_0 d1)] at g273; cases g273) | (rw [hT] at g273; cases g273) | skip
      refine zLiald vr_33_19 rfl (fun p274 x274 w274 e274 f274 c274 t274 g274 => ?_)
      cases e274
      cases f274
      first | (rw [d2] at g274; cases g274) | (rw [d3] at g274; cases g274) | (rw [(st_183_0 d1)] at g274; cases g274) | (rw [hT] at g274; cases g274) | skip
      refine zSp0 (pc' := 22) (st' := .int (32) :: _) vr_33_20 rfl rfl ?_
      refine zSb2 (f := fun x y => decide (¬ x = y)) (off := 16) (t := 38) vr_33_22 rfl rfl rfl (fun x276 y276 e276 f276 q276 => ?_) (fun x276 y276 e276 f276 q276 => ?_)
      · cases e276
        cases f276
        have c276 := of_decide_eq_true q276
        refine zSaload (m := 1) (k := 0) vr_33_38 rfl rfl rfl ?_
        refine zLget vr_33_39 rfl (fun p278 w278 e278 t278 g278 => ?_)
        cases e278
        first | (rw [d2] at g278; cases g278) | (rw [d3] at g278; cases g278) | (rw [(st_183_0 d1)] at g278; cases g278) | (rw [hT] at g278; cases g278) | skip
        refine zSaload (m := 1) (k := 0) vr_33_42 rfl rfl rfl ?_
        refine zLget vr_33_43 rfl (fun p280 w280 e280 t280 g280 => ?_)
        cases e280
        first | (rw [d2] at g280; cases g280) | (rw [d3] at g280; cases g280) | (rw [(st_183_0 d1)] at g280; cases g280) | (rw [hT] at g280; cases g280) | skip
        refine zSb2 (f := fun x y => decide (y ≤ x)) (off := 15) (t := 61) vr_33_46 rfl rfl rfl (fun x281 y281 e281 f281 q281 => ?_) (fun x281 y281 e281 f281 q281 => ?_)
        · cases e281
          cases f281
          have c281 := of_decide_eq_true q281
          refine zSp0 (pc' := 62) (st' := .int (-1) :: _) vr_33_61 rfl rfl ?_
          refine zLiret vr_33_62 rfl (fun x283 e283 => ?_)
          cases e283
          first
            | (have e : skp T L p = p := skp_n (fun z => c276 z.2)
               unfold sg
               rw [e, if_pos hp]
               exact ⟨PL.refl d3, rfl⟩)
            | (have e : skp T L p = p := skp_n (fun z => by have y := c255; rw [cl.2] at y; omega)
               unfold sg
               rw [e, if_neg (by have y := c281; rw [cl.2] at y; omega)]
               exact ⟨PL.refl d3, rfl⟩)
            | (exfalso
               have y := c281
               rw [cl.2] at y
               omega)
            | (exfalso
               have y := c255
               rw [cl.2] at y
               omega)
        · cases e281
          cases f281
          have c281 := ndc q281
          have hp : p < L := by
            have y := c281
            rw [cl.2] at y
            omega
          have hT : gF h 184 (Int32.ofNat p).toNatClampNeg = some (.int (T p)) := by
            rw [kp.1]
            exact d6 p hp
          refine zSaload (m := 1) (k := 0) vr_33_49 rfl rfl rfl ?_
          refine zLget vr_33_50 rfl (fun p285 w285 e285 t285 g285 => ?_)
          cases e285
          first | (rw [d2] at g285; cases g285) | (rw [d3] at g285; cases g285) | (rw [(st_183_0 d1)] at g285; cases g285) | (rw [hT] at g285; cases g285) | skip
          refine zSaload (m := 1) (k := 0) vr_33_53 rfl rfl rfl ?_
          refine zLget vr_33_54 rfl (fun p287 w287 e287 t287 g287 => ?_)
          cases e287
          first | (rw [d2] at g287; cases g287) | (rw [d3] at g287; cases g287) | (rw [(st_183_0 d1)] at g287; cases g287) | (rw [hT] at g287; cases g287) | skip
          refine zLiald vr_33_57 rfl (fun p288 x288 w288 e288 f288 c288 t288 g288 => ?_)
          cases e288
          cases f288
          first | (rw [d2] at g288; cases g288) | (rw [d3] at g288; cases g288) | (rw [(st_183_0 d1)] at g288; cases g288) | (rw [hT] at g288; cases g288) | skip
          refine zSgo (t := 62) vr_33_58 rfl rfl ?_
          refine zLiret vr_33_62 rfl (fun x290 e290 => ?_)
          cases e290
          first
            | (have e : skp T L p = p := skp_n (fun z => c276 z.2)
               unfold sg
               rw [e, if_pos hp]
               exact ⟨PL.refl d3, rfl⟩)
            | (have e : skp T L p = p := skp_n (fun z => by have y := c255; rw [cl.2] at y; omega)
               unfold sg
               rw [e, if_neg (by have y := c281; rw [cl.2] at y; omega)]
               exact ⟨PL.refl d3, rfl⟩)
            | (exfalso
               have y := c281
               rw [cl.2] at y
               omega)
            | (exfalso
               have y := c255
               rw [cl.2] at y
               omega)
      · cases e276
        cases f276
        have c276 := ndc q276
        refine zSaload (m := 1) (k := 0) vr_33_25 rfl rfl rfl ?_
        refine zSdup vr_33_26 rfl ?_
        refine zLget vr_33_27 rfl (fun p293 w293 e293 t293 g293 => ?_)
        cases e293
        first | (rw [d2] at g293; cases g293) | (rw [d3] at g293; cases g293) | (rw [(st_183_0 d1)] at g293; cases g293) | (rw [hT] at g293; cases g293) | skip
        refine zSp0 (pc' := 31) (st' := .int (1) :: _) vr_33_30 rfl rfl ?_
        refine zS2 (f := fun x y => .int (x + y)) vr_33_31 rfl rfl (fun x295 y295 e295 f295 => ?_)
        cases e295
        cases f295
        refine zLput vr_33_32 rfl (fun p296 k296 e296 t296 g296 => ?_)
        cases e296
        refine zSgo (t := 0) vr_33_35 rfl rfl ?_
        have g0 := g296
        rw [ofNat_succ1] at g0
        have pl := (PL.refl d3).put g0
        refine zL_K _ _ _ _ _ _ _ _ _ (C_ns n (p + 1) _ _ (DT.pl ⟨d1, d2, d3, d4, d5, d6⟩ pl (by omega))) (fun o h2 u2 q => ?_)
        have e : T p = 32 := Decidable.not_not.mp c276
        unfold sg at q ⊢
        rw [skp_y hp e]
        exact ⟨pl.trans q.1, q.2⟩
theorem C_tkS (n : Nat) (c : Int32) (h : List zC) (u : Nat) {T : Nat → Int32} {L p : Nat} (d : DT h T L p) : zL zrx zi n 34 0 [(0, .ref 183), (1, .int c)] [] h u (fun o h2 _ => PL h h2 (tkS T L c p).2 ∧ o = .inl (some (.int (tkS T L c p).1))) := by
  refine zSaload (m := 1) (k := 0) vr_34_0 rfl rfl rfl ?_
  refine zScall vr_34_1 rfl rfl rfl (fun m299 _ => C_ns _ _ _ _ d) (fun v299 h299 u299 q299 => ?_) (fun E299 h299 u299 q299 => ?_)
  · obtain ⟨pl, z299⟩ := q299
    cases z299
    show zL zrx zi _ 34 4 [(0, _), (1, _)] [_] _ _ _
    have d3 := pl.2.2.1
    refine zSiload (m := 1) (k := 1) vr_34_4 rfl rfl rfl (fun x300 e300 => ?_)
    cases e300
    refine zSb2 (f := fun x y => decide (x = y)) (off := 5) (t := 10) vr_34_5 rfl rfl rfl (fun x301 y301 e301 f301 q301 => ?_) (fun x301 y301 e301 f301 q301 => ?_)
    · cases e301
      cases f301
      have c301 := of_decide_eq_true q301
      refine zSaload (m := 1) (k := 0) vr_34_10 rfl rfl rfl ?_
      refine zSdup vr_34_11 rfl ?_
      refine zLget vr_34_12 rfl (fun p304 w304 e304 t304 g304 => ?_)
      cases e304
      first | (rw [d3] at g304; cases g304) | skip
      refine zSp0 (pc' := 16) (st' := .int (1) :: _) vr_34_15 rfl rfl ?_
      refine zS2 (f := fun x y => .int (x + y)) vr_34_16 rfl rfl (fun x306 y306 e306 f306 => ?_)
      cases e306
      cases f306
      refine zLput vr_34_17 rfl (fun p307 k307 e307 t307 g307 => ?_)
      cases e307
      refine zSp0 (pc' := 21) (st' := .int (1) :: _) vr_34_20 rfl rfl ?_
      refine zLiret vr_34_21 rfl (fun x309 e309 => ?_)
      cases e309
      have g0 := g307
      rw [ofNat_succ1] at g0
      unfold tkS
      rw [if_pos c301]
      exact ⟨pl.put g0, rfl⟩
    · cases e301
      cases f301
      have c301 := ndc q301
      refine zSp0 (pc' := 9) (st' := .int (0) :: _) vr_34_8 rfl rfl ?_
      refine zLiret vr_34_9 rfl (fun x311 e311 => ?_)
      cases e311
      unfold tkS
      rw [if_neg c301]
      exact ⟨pl, rfl⟩
  · obtain ⟨-, z⟩ := q299
    cases z
theorem C_tkD (n : Nat) (m : Int32) (h : List zC) (u : Nat) {T : Nat → Int32} {L p : Nat} (d : DT h T L p) : zL zrx zi n 35 0 [(0, .ref 183), (1, .int m)] [] h u (fun o h2 _ => PL h h2 (tkD T L m p).2 ∧ o = .inl (some (.int (tkD T L m p).1))) := by
  refine zSaload (m := 1) (k := 0) vr_35_0 rfl rfl rfl ?_
  refine zScall vr_35_1 rfl rfl rfl (fun m313 _ => C_ns _ _ _ _ d) (fun v313 h313 u313 q313 => ?_) (fun E313 h313 u313 q313 => ?_)
  · obtain ⟨pl, z313⟩ := q313
    cases z313
    show zL zrx zi _ 35 4 [(0, _), (1, _)] [_] _ _ _
    have d3 := pl.2.2.1
    refine zSistore (m := 1) (k := 2) vr_35_4 rfl rfl (fun x314 e314 => ?_)
    cases e314
    show zL zrx zi _ 35 5 [(2, _), (0, _), (1, _)] [] _ _ _
    refine zSiload (m := 1) (k := 2) vr_35_5 rfl rfl rfl (fun x315 e315 => ?_)
    cases e315
    refine zSp0 (pc' := 8) (st' := .int (48) :: _) vr_35_6 rfl rfl ?_
    refine zSb2 (f := fun x y => decide (x < y)) (off := 11) (t := 19) vr_35_8 rfl rfl rfl (fun x317 y317 e317 f317 q317 => ?_) (fun x317 y317 e317 f317 q317 => ?_)
    · cases e317
      cases f317
      have c317 := of_decide_eq_true q317
      refine zSp0 (pc' := 20) (st' := .int (-1) :: _) vr_35_19 rfl rfl ?_
      refine zLiret vr_35_20 rfl (fun x319 e319 => ?_)
      cases e319
      first
        | (unfold tkD
           rw [if_pos (Or.inl c317)]
           exact ⟨pl, rfl⟩)
        | (unfold tkD
           rw [if_pos (Or.inr (Int32.not_lt.mp c306))]
           exact ⟨pl, rfl⟩)
    · cases e317
      cases f317
      have c317 := ndc q317
      refine zSiload (m := 1) (k := 2) vr_35_11 rfl rfl rfl (fun x320 e320 => ?_)
      cases e320
      refine zSp0 (pc' := 14) (st' := .int (48) :: _) vr_35_12 rfl rfl ?_
      refine zSiload (m := 1) (k := 1) vr_35_14 rfl rfl rfl (fun x322 e322 => ?_)
      cases e322
      refine zS2 (f := fun x y => .int (x + y)) vr_35_15 rfl rfl (fun x323 y323 e323 f323 => ?_)
      cases e323
      cases f323
      refine zSb2 (f := fun x y => decide (x < y)) (off := 5) (t := 21) vr_35_16 rfl rfl rfl (fun x324 y324 e324 f324 q324 => ?_) (fun x324 y324 e324 f324 q324 => ?_)
      · cases e324
        cases f324
        have c324 := of_decide_eq_true q324
        refine zSaload (m := 1) (k := 0) vr_35_21 rfl rfl rfl ?_
        refine zSdup vr_35_22 rfl ?_
        refine zLget vr_35_23 rfl (fun p327 w327 e327 t327 g327 => ?_)
        cases e327
        first | (rw [d3] at g327; cases g327) | skip
        refine zSp0 (pc' := 27) (st' := .int (1) :: _) vr_35_26 rfl rfl ?_
        refine zS2 (f := fun x y => .int (x + y)) vr_35_27 rfl rfl (fun x329 y329 e329 f329 => ?_)
        cases e329
        cases f329
        refine zLput vr_35_28 rfl (fun p330 k330 e330 t330 g330 => ?_)
        cases e330
        refine zSiload (m := 1) (k := 2) vr_35_31 rfl rfl rfl (fun x331 e331 => ?_)
        cases e331
        refine zSp0 (pc' := 34) (st' := .int (48) :: _) vr_35_32 rfl rfl ?_
        refine zS2 (f := fun x y => .int (x - y)) vr_35_34 rfl rfl (fun x333 y333 e333 f333 => ?_)
        cases e333
        cases f333
        refine zLiret vr_35_35 rfl (fun x334 e334 => ?_)
        cases e334
        have g0 := g330
        rw [ofNat_succ1] at g0
        unfold tkD
        rw [if_neg (fun z => by rcases z with z | z; exact c317 z; exact absurd c324 (Int32.not_lt.mpr z))]
        exact ⟨pl.put g0, rfl⟩
      · cases e324
        cases f324
        have c324 := ndc q324
        refine zSp0 (pc' := 20) (st' := .int (-1) :: _) vr_35_19 rfl rfl ?_
        refine zLiret vr_35_20 rfl (fun x336 e336 => ?_)
        cases e336
        first
          | (unfold tkD
             rw [if_pos (Or.inl c317)]
             exact ⟨pl, rfl⟩)
          | (unfold tkD
             rw [if_pos (Or.inr (Int32.not_lt.mp c324))]
             exact ⟨pl, rfl⟩)
  · obtain ⟨-, z⟩ := q313
    cases z
set_option maxRecDepth 20000 in
theorem C_tkN_loop {T : Nat → Int32} {L : Nat} {most : Int32} : ∀ (n k : Nat) (x : Int32) (p : Nat) (w : Value) (h : List zC) (u : Nat), 1 ≤ k → k ≤ 3 → DT h T L p → zL zrx zi n 36 9 [(3, .int (Int32.ofNat k)), (2, .int x), (0, .ref 183), (1, .int most), (4, w)] [] h u (fun o h2 _ => PL h h2 (nuF T L (3 - k) (x, p)).2 ∧ o = .inl (some (.int (if most < (nuF T L (3 - k) (x, p)).1 then -1 else (nuF T L (3 - k) (x, p)).1))))
  | 0, _, _, _, _, _, _, _, _, _ => trivial
  | n + 1, k, x, p, w, h, u, k1, k3, d => by
    obtain ⟨d1, d2, d3, d4, d5, d6⟩ := id d
    have kp := toNat_ofNat (m := p) (by omega)
    have kk := toNat_ofNat (m := k) (by omega)
    have z3 : (3 : Int32).toInt = 3 := rfl
    have cl := on_lt (a := L) (b := p) (by omega) (by omega)
    refine zLp vr_36_9 rfl rfl ?_
    refine zSp0 (pc' := 11) (st' := .int (3) :: _) vr_36_10 rfl rfl ?_
    refine zSb2 (f := fun x y => decide (y ≤ x)) (off := 67) (t := 78) vr_36_11 rfl rfl rfl (fun x338 y338 e338 f338 q338 => ?_) (fun x338 y338 e338 f338 q338 => ?_)
    · cases e338
      cases f338
      have c338 := of_decide_eq_true q338
      refine zSiload (m := 1) (k := 2) vr_36_78 rfl rfl rfl (fun x339 e339 => ?_)
      cases e339
      refine zSiload (m := 1) (k := 1) vr_36_79 rfl rfl rfl (fun x340 e340 => ?_)
      cases e340
      refine zSb2 (f := fun x y => decide (x ≤ y)) (off := 7) (t := 87) vr_36_80 rfl rfl rfl (fun x341 y341 e341 f341 q341 => ?_) (fun x341 y341 e341 f341 q341 => ?_)
      · cases e341
        cases f341
        have c341 := of_decide_eq_true q341
        refine zSiload (m := 1) (k := 2) vr_36_87 rfl rfl rfl (fun x342 e342 => ?_)
        cases e342
        refine zLiret vr_36_88 rfl (fun x343 e343 => ?_)
        cases e343
        first
          | (have e : k = 3 := by
               have y := c338
               rw [i32_le, kk.2, z3] at y
               omega
             subst e
             refine ⟨PL.refl d3, ?_⟩
             first
               | exact congrArg (fun z => Sum.inl (some (Value.int z))) (if_pos (Int32.not_le.mp c341)).symm
               | exact congrArg (fun z => Sum.inl (some (Value.int z))) (if_neg (Int32.not_lt.mpr c341)).symm)
          | (rw [e3, nuF_s (x := (x, p)) (Or.inl c324)]
             refine ⟨PL.refl d3, ?_⟩
             first
               | exact congrArg (fun z => Sum.inl (some (Value.int z))) (if_pos (Int32.not_le.mp c341)).symm
               | exact congrArg (fun z => Sum.inl (some (Value.int z))) (if_neg (Int32.not_lt.mpr c341)).symm)
          | (rw [e3, nuF_s (x := (x, p)) (Or.inr (Or.inl (cl.2.mp c329)))]
             refine ⟨PL.refl d3, ?_⟩
             first
               | exact congrArg (fun z => Sum.inl (some (Value.int z))) (if_pos (Int32.not_le.mp c341)).symm
               | exact congrArg (fun z => Sum.inl (some (Value.int z))) (if_neg (Int32.not_lt.mpr c341)).symm)
          | (rw [e3, nuF_s (x := (x, p)) (Or.inr (Or.inr (Decidable.not_not.mp c166)))]
             refine ⟨PL.refl d3, ?_⟩
             first
               | exact congrArg (fun z => Sum.inl (some (Value.int z))) (if_pos (Int32.not_le.mp c341)).symm
               | exact congrArg (fun z => Sum.inl (some (Value.int z))) (if_neg (Int32.not_lt.mpr c341)).symm)
          | (rw [e3, nuF_n (x := (x, p)) (fun z => by rcases z with z | z | z; exact c324 z; omega; exact c166 z) (Decidable.not_not.mp c289)]
             refine ⟨pl285, ?_⟩
             first
               | exact congrArg (fun z => Sum.inl (some (Value.int z))) (if_pos (Int32.not_le.mp c341)).symm
               | exact congrArg (fun z => Sum.inl (some (Value.int z))) (if_neg (Int32.not_lt.mpr c341)).symm)
      · cases e341
        cases f341
        have c341 := ndc q341
        refine zSp0 (pc' := 84) (st' := .int (-1) :: _) vr_36_83 rfl rfl ?_
        refine zSgo (t := 88) vr_36_84 rfl rfl ?_
        refine zLiret vr_36_88 rfl (fun x346 e346 => ?_)
        cases e346
        first
          | (have e : k = 3 := by
               have y := c338
               rw [i32_le, kk.2, z3] at y
               omega
             subst e
             refine ⟨PL.refl d3, ?_⟩
             first
               | exact congrArg (fun z => Sum.inl (some (Value.int z))) (if_pos (Int32.not_le.mp c341)).symm
               | exact congrArg (fun z => Sum.inl (some (Value.int z))) (if_neg (Int32.not_lt.mpr c341)).symm)
          | (rw [e3, nuF_s (x := (x, p)) (Or.inl c324)]
             refine ⟨PL.refl d3, ?_⟩
             first
               | exact congrArg (fun z => Sum.inl (some (Value.int z))) (if_pos (Int32.not_le.mp c341)).symm
               | exact congrArg (fun z => Sum.inl (some (Value.int z))) (if_neg (Int32.not_lt.mpr c341)).symm)
          | (rw [e3, nuF_s (x := (x, p)) (Or.inr (Or.inl (cl.2.mp c329)))]
             refine ⟨PL.refl d3, ?_⟩
             first
               | exact congrArg (fun z => Sum.inl (some (Value.int z))) (if_pos (Int32.not_le.mp c341)).symm
               | exact congrArg (fun z => Sum.inl (some (Value.int z))) (if_neg (Int32.not_lt.mpr c341)).symm)
          | (rw [e3, nuF_s (x := (x, p)) (Or.inr (Or.inr (Decidable.not_not.mp c166)))]
             refine ⟨PL.refl d3, ?_⟩
             first
               | exact congrArg (fun z => Sum.inl (some (Value.int z))) (if_pos (Int32.not_le.mp c341)).symm
               | exact congrArg (fun z => Sum.inl (some (Value.int z))) (if_neg (Int32.not_lt.mpr c341)).symm)
          | (rw [e3, nuF_n (x := (x, p)) (fun z => by rcases z with z | z | z; exact c324 z; omega; exact c166 z) (Decidable.not_not.mp c289)]
             refine ⟨pl285, ?_⟩
             first
               | exact congrArg (fun z => Sum.inl (some (Value.int z))) (if_pos (Int32.not_le.mp c341)).symm
               | exact congrArg (fun z => Sum.inl (some (Value.int z))) (if_neg (Int32.not_lt.mpr c341)).symm)
    · cases e338
      cases f338
      have c338 := ndc q338
      have k2 : k < 3 := by
        have y := c338
        rw [i32_le, kk.2, z3] at y
        omega
      have e3 : 3 - k = (3 - (k + 1)) + 1 := by omega
      refine zSiload (m := 1) (k := 2) vr_36_14 rfl rfl rfl (fun x347 e347 => ?_)
      cases e347
      refine zSp0 (pc' := 16) (st' := .int (-1) :: _) vr_36_15 rfl rfl ?_
      refine zSb2 (f := fun x y => decide (x = y)) (off := 62) (t := 78) vr_36_16 rfl rfl rfl (fun x349 y349 e349 f349 q349 => ?_) (fun x349 y349 e349 f349 q349 => ?_)
      · cases e349
        cases f349
        have c349 := of_decide_eq_true q349
        refine zSiload (m := 1) (k := 2) vr_36_78 rfl rfl rfl (fun x350 e350 => ?_)
        cases e350
        refine zSiload (m := 1) (k := 1) vr_36_79 rfl rfl rfl (fun x351 e351 => ?_)
        cases e351
        refine zSb2 (f := fun x y => decide (x ≤ y)) (off := 7) (t := 87) vr_36_80 rfl rfl rfl (fun x352 y352 e352 f352 q352 => ?_) (fun x352 y352 e352 f352 q352 => ?_)
        · cases e352
          cases f352
          have c352 := of_decide_eq_true q352
          refine zSiload (m := 1) (k := 2) vr_36_87 rfl rfl rfl (fun x353 e353 => ?_)
          cases e353
          refine zLiret vr_36_88 rfl (fun x354 e354 => ?_)
          cases e354
          first
            | (have e : k = 3 := by
                 have y := c338
                 rw [i32_le, kk.2, z3] at y
                 omega
               subst e
               refine ⟨PL.refl d3, ?_⟩
               first
                 | exact congrArg (fun z => Sum.inl (some (Value.int z))) (if_pos (Int32.not_le.mp c352)).symm
                 | exact congrArg (fun z => Sum.inl (some (Value.int z))) (if_neg (Int32.not_lt.mpr c352)).symm)
            | (rw [e3, nuF_s (x := (x, p)) (Or.inl c349)]
               refine ⟨PL.refl d3, ?_⟩
               first
                 | exact congrArg (fun z => Sum.inl (some (Value.int z))) (if_pos (Int32.not_le.mp c352)).symm
                 | exact congrArg (fun z => Sum.inl (some (Value.int z))) (if_neg (Int32.not_lt.mpr c352)).symm)
            | (rw [e3, nuF_s (x := (x, p)) (Or.inr (Or.inl (cl.2.mp c329)))]
               refine ⟨PL.refl d3, ?_⟩
               first
                 | exact congrArg (fun z => Sum.inl (some (Value.int z))) (if_pos (Int32.not_le.mp c352)).symm
                 | exact congrArg (fun z => Sum.inl (some (Value.int z))) (if_neg (Int32.not_lt.mpr c352)).symm)
            | (rw [e3, nuF_s (x := (x, p)) (Or.inr (Or.inr (Decidable.not_not.mp c166)))]
               refine ⟨PL.refl d3, ?_⟩
               first
                 | exact congrArg (fun z => Sum.inl (some (Value.int z))) (if_pos (Int32.not_le.mp c352)).symm
                 | exact congrArg (fun z => Sum.inl (some (Value.int z))) (if_neg (Int32.not_lt.mpr c352)).symm)
            | (rw [e3, nuF_n (x := (x, p)) (fun z => by rcases z with z | z | z; exact c349 z; omega; exact c166 z) (Decidable.not_not.mp c289)]
               refine ⟨pl285, ?_⟩
               first
                 | exact congrArg (fun z => Sum.inl (some (Value.int z))) (if_pos (Int32.not_le.mp c352)).symm
                 | exact congrArg (fun z => Sum.inl (some (Value.int z))) (if_neg (Int32.not_lt.mpr c352)).symm)
        · cases e352
          cases f352
          have c352 := ndc q352
          refine zSp0 (pc' := 84) (st' := .int (-1) :: _) vr_36_83 rfl rfl ?_
          refine zSgo (t := 88) vr_36_84 rfl rfl ?_
          refine zLiret vr_36_88 rfl (fun x357 e357 => ?_)
          cases e357
          first
            | (have e : k = 3 := by
                 have y := c338
                 rw [i32_le, kk.2, z3] at y
                 omega
               subst e
               refine ⟨PL.refl d3, ?_⟩
               first
                 | exact congrArg (fun z => Sum.inl (some (Value.int z))) (if_pos (Int32.not_le.mp c352)).symm
                 | exact congrArg (fun z => Sum.inl (some (Value.int z))) (if_neg (Int32.not_lt.mpr c352)).symm)
            | (rw [e3, nuF_s (x := (x, p)) (Or.inl c349)]
               refine ⟨PL.refl d3, ?_⟩
               first
                 | exact congrArg (fun z => Sum.inl (some (Value.int z))) (if_pos (Int32.not_le.mp c352)).symm
                 | exact congrArg (fun z => Sum.inl (some (Value.int z))) (if_neg (Int32.not_lt.mpr c352)).symm)
            | (rw [e3, nuF_s (x := (x, p)) (Or.inr (Or.inl (cl.2.mp c329)))]
               refine ⟨PL.refl d3, ?_⟩
               first
                 | exact congrArg (fun z => Sum.inl (some (Value.int z))) (if_pos (Int32.not_le.mp c352)).symm
                 | exact congrArg (fun z => Sum.inl (some (Value.int z))) (if_neg (Int32.not_lt.mpr c352)).symm)
            | (rw [e3, nuF_s (x := (x, p)) (Or.inr (Or.inr (Decidable.not_not.mp c166)))]
               refine ⟨PL.refl d3, ?_⟩
               first
                 | exact congrArg (fun z => Sum.inl (some (Value.int z))) (if_pos (Int32.not_le.mp c352)).symm
                 | exact congrArg (fun z => Sum.inl (some (Value.int z))) (if_neg (Int32.not_lt.mpr c352)).symm)
            | (rw [e3, nuF_n (x := (x, p)) (fun z => by rcases z with z | z | z; exact c349 z; omega; exact c166 z) (Decidable.not_not.mp c289)]
               refine ⟨pl285, ?_⟩
               first
                 | exact congrArg (fun z => Sum.inl (some (Value.int z))) (if_pos (Int32.not_le.mp c352)).symm
                 | exact congrArg (fun z => Sum.inl (some (Value.int z))) (if_neg (Int32.not_lt.mpr c352)).symm)
      · cases e349
        cases f349
        have c349 := ndc q349
        refine zSaload (m := 1) (k := 0) vr_36_19 rfl rfl rfl ?_
        refine zLget vr_36_20 rfl (fun p359 w359 e359 t359 g359 => ?_)
        cases e359
        first | (rw [d2] at g359; cases g359) | (rw [d3] at g359; cases g359) | (rw [(st_183_0 d1)] at g359; cases g359) | (rw [hT] at g359; cases g359) | skip
        refine zSaload (m := 1) (k := 0) vr_36_23 rfl rfl rfl ?_
        refine zLget vr_36_24 rfl (fun p361 w361 e361 t361 g361 => ?_)
        cases e361
        first | (rw [d2] at g361; cases g361) | (rw [d3] at g361; cases g361) | (rw [(st_183_0 d1)] at g361; cases g361) | (rw [hT] at g361; cases g361) | skip
        refine zSb2 (f := fun x y => decide (y ≤ x)) (off := 51) (t := 78) vr_36_27 rfl rfl rfl (fun x362 y362 e362 f362 q362 => ?_) (fun x362 y362 e362 f362 q362 => ?_)
        · cases e362
          cases f362
          have c362 := of_decide_eq_true q362
          refine zSiload (m := 1) (k := 2) vr_36_78 rfl rfl rfl (fun x363 e363 => ?_)
          cases e363
          refine zSiload (m := 1) (k := 1) vr_36_79 rfl rfl rfl (fun x364 e364 => ?_)
          cases e364
          refine zSb2 (f := fun x y => decide (x ≤ y)) (off := 7) (t := 87) vr_36_80 rfl rfl rfl (fun x365 y365 e365 f365 q365 => ?_) (fun x365 y365 e365 f365 q365 => ?_)
          · cases e365
            cases f365
            have c365 := of_decide_eq_true q365
            refine zSiload (m := 1) (k := 2) vr_36_87 rfl rfl rfl (fun x366 e366 => ?_)
            cases e366
            refine zLiret vr_36_88 rfl (fun x367 e367 => ?_)
            cases e367
            first
              | (have e : k = 3 := by
                   have y := c338
                   rw [i32_le, kk.2, z3] at y
                   omega
                 subst e
                 refine ⟨PL.refl d3, ?_⟩
                 first
                   | exact congrArg (fun z => Sum.inl (some (Value.int z))) (if_pos (Int32.not_le.mp c365)).symm
                   | exact congrArg (fun z => Sum.inl (some (Value.int z))) (if_neg (Int32.not_lt.mpr c365)).symm)
              | (rw [e3, nuF_s (x := (x, p)) (Or.inl c349)]
                 refine ⟨PL.refl d3, ?_⟩
                 first
                   | exact congrArg (fun z => Sum.inl (some (Value.int z))) (if_pos (Int32.not_le.mp c365)).symm
                   | exact congrArg (fun z => Sum.inl (some (Value.int z))) (if_neg (Int32.not_lt.mpr c365)).symm)
              | (rw [e3, nuF_s (x := (x, p)) (Or.inr (Or.inl (cl.2.mp c362)))]
                 refine ⟨PL.refl d3, ?_⟩
                 first
                   | exact congrArg (fun z => Sum.inl (some (Value.int z))) (if_pos (Int32.not_le.mp c365)).symm
                   | exact congrArg (fun z => Sum.inl (some (Value.int z))) (if_neg (Int32.not_lt.mpr c365)).symm)
              | (rw [e3, nuF_s (x := (x, p)) (Or.inr (Or.inr (Decidable.not_not.mp c166)))]
                 refine ⟨PL.refl d3, ?_⟩
                 first
                   | exact congrArg (fun z => Sum.inl (some (Value.int z))) (if_pos (Int32.not_le.mp c365)).symm
                   | exact congrArg (fun z => Sum.inl (some (Value.int z))) (if_neg (Int32.not_lt.mpr c365)).symm)
              | (rw [e3, nuF_n (x := (x, p)) (fun z => by rcases z with z | z | z; exact c349 z; omega; exact c166 z) (Decidable.not_not.mp c289)]
                 refine ⟨pl285, ?_⟩
                 first
                   | exact congrArg (fun z => Sum.inl (some (Value.int z))) (if_pos (Int32.not_le.mp c365)).symm
                   | exact congrArg (fun z => Sum.inl (some (Value.int z))) (if_neg (Int32.not_lt.mpr c365)).symm)
          · cases e365
            cases f365
            have c365 := ndc q365
            refine zSp0 (pc' := 84) (st' := .int (-1) :: _) vr_36_83 rfl rfl ?_
            refine zSgo (t := 88) vr_36_84 rfl rfl ?_
            refine zLiret vr_36_88 rfl (fun x370 e370 => ?_)
            cases e370
            first
              | (have e : k = 3 := by
                   have y := c338
                   rw [i32_le, kk.2, z3] at y
                   omega
                 subst e
                 refine ⟨PL.refl d3, ?_⟩
                 first
                   | exact congrArg (fun z => Sum.inl (some (Value.int z))) (if_pos (Int32.not_le.mp c365)).symm
                   | exact congrArg (fun z => Sum.inl (some (Value.int z))) (if_neg (Int32.not_lt.mpr c365)).symm)
              | (rw [e3, nuF_s (x := (x, p)) (Or.inl c349)]
                 refine ⟨PL.refl d3, ?_⟩
                 first
                   | exact congrArg (fun z => Sum.inl (some (Value.int z))) (if_pos (Int32.not_le.mp c365)).symm
                   | exact congrArg (fun z => Sum.inl (some (Value.int z))) (if_neg (Int32.not_lt.mpr c365)).symm)
              | (rw [e3, nuF_s (x := (x, p)) (Or.inr (Or.inl (cl.2.mp c362)))]
                 refine ⟨PL.refl d3, ?_⟩
                 first
                   | exact congrArg (fun z => Sum.inl (some (Value.int z))) (if_pos (Int32.not_le.mp c365)).symm
                   | exact congrArg (fun z => Sum.inl (some (Value.int z))) (if_neg (Int32.not_lt.mpr c365)).symm)
              | (rw [e3, nuF_s (x := (x, p)) (Or.inr (Or.inr (Decidable.not_not.mp c166)))]
                 refine ⟨PL.refl d3, ?_⟩
                 first
                   | exact congrArg (fun z => Sum.inl (some (Value.int z))) (if_pos (Int32.not_le.mp c365)).symm
                   | exact congrArg (fun z => Sum.inl (some (Value.int z))) (if_neg (Int32.not_lt.mpr c365)).symm)
              | (rw [e3, nuF_n (x := (x, p)) (fun z => by rcases z with z | z | z; exact c349 z; omega; exact c166 z) (Decidable.not_not.mp c289)]
                 refine ⟨pl285, ?_⟩
                 first
                   | exact congrArg (fun z => Sum.inl (some (Value.int z))) (if_pos (Int32.not_le.mp c365)).symm
                   | exact congrArg (fun z => Sum.inl (some (Value.int z))) (if_neg (Int32.not_lt.mpr c365)).symm)
        · cases e362
          cases f362
          have c362 := ndc q362
          have hp : p < L := by
            have y := c362
            rw [cl.2] at y
            omega
          have hT : gF h 184 (Int32.ofNat p).toNatClampNeg = some (.int (T p)) := by
            rw [kp.1]
            exact d6 p hp
          refine zSaload (m := 1) (k := 0) vr_36_30 rfl rfl rfl ?_
          refine zLget vr_36_31 rfl (fun p372 w372 e372 t372 g372 => ?_)
          cases e372
          first | (rw [d2] at g372; cases g372) | (rw [d3] at g372; cases g372) | (rw [(st_183_0 d1)] at g372; cases g372) | (rw [hT] at g372; cases g372) | skip
          refine zSaload (m := 1) (k := 0) vr_36_34 rfl rfl rfl ?_
          refine zLget vr_36_35 rfl (fun p374 w374 e374 t374 g374 => ?_)
          cases e374
          first | (rw [d2] at g374; cases g374) | (rw [d3] at g374; cases g374) | (rw [(st_183_0 d1)] at g374; cases g374) | (rw [hT] at g374; cases g374) | skip
          refine zLiald vr_36_38 rfl (fun p375 x375 w375 e375 f375 c375 t375 g375 => ?_)
          cases e375
          cases f375
          first | (rw [d2] at g375; cases g375) | (rw [d3] at g375; cases g375) | (rw [(st_183_0 d1)] at g375; cases g375) | (rw [hT] at g375; cases g375) | skip
          refine zSp0 (pc' := 41) (st' := .int (32) :: _) vr_36_39 rfl rfl ?_
          refine zSb2 (f := fun x y => decide (¬ x = y)) (off := 6) (t := 47) vr_36_41 rfl rfl rfl (fun x377 y377 e377 f377 q377 => ?_) (fun x377 y377 e377 f377 q377 => ?_)
          · cases e377
            cases f377
            have c377 := of_decide_eq_true q377
            refine zSaload (m := 1) (k := 0) vr_36_47 rfl rfl rfl ?_
            refine zSp0 (pc' := 50) (st' := .int (10) :: _) vr_36_48 rfl rfl ?_
            refine zScall vr_36_50 rfl rfl rfl (fun m380 _ => C_tkD _ _ _ _ d) (fun v380 h380 u380 q380 => ?_) (fun E380 h380 u380 q380 => ?_)
            · obtain ⟨pl380, z380⟩ := q380
              cases z380
              show zL zrx zi _ 36 53 [(3, _), (2, _), (0, _), (1, _), (4, _)] [_] _ _ _
              refine zSistore (m := 2) (k := 4) vr_36_53 rfl rfl (fun x381 e381 => ?_)
              cases e381
              show zL zrx zi _ 36 55 [(4, _), (3, _), (2, _), (0, _), (1, _)] [] _ _ _
              refine zSiload (m := 2) (k := 4) vr_36_55 rfl rfl rfl (fun x382 e382 => ?_)
              cases e382
              refine zSp0 (pc' := 58) (st' := .int (-1) :: _) vr_36_57 rfl rfl ?_
              refine zSb2 (f := fun x y => decide (¬ x = y)) (off := 6) (t := 64) vr_36_58 rfl rfl rfl (fun x384 y384 e384 f384 q384 => ?_) (fun x384 y384 e384 f384 q384 => ?_)
              · cases e384
                cases f384
                have c384 := of_decide_eq_true q384
                refine zSiload (m := 1) (k := 2) vr_36_64 rfl rfl rfl (fun x385 e385 => ?_)
                cases e385
                refine zSp0 (pc' := 67) (st' := .int (10) :: _) vr_36_65 rfl rfl ?_
                refine zS2 (f := fun x y => .int (x * y)) vr_36_67 rfl rfl (fun x387 y387 e387 f387 => ?_)
                cases e387
                cases f387
                refine zSiload (m := 2) (k := 4) vr_36_68 rfl rfl rfl (fun x388 e388 => ?_)
                cases e388
                refine zS2 (f := fun x y => .int (x + y)) vr_36_70 rfl rfl (fun x389 y389 e389 f389 => ?_)
                cases e389
                cases f389
                refine zSistore (m := 1) (k := 2) vr_36_71 rfl rfl (fun x390 e390 => ?_)
                cases e390
                show zL zrx zi _ 36 72 [(2, _), (4, _), (3, _), (0, _), (1, _)] [] _ _ _
                refine zSiinc vr_36_72 rfl rfl (fun x391 e391 => ?_)
                cases e391
                show zL zrx zi _ 36 75 [(3, _), (2, _), (4, _), (0, _), (1, _)] [] _ _ _
                refine zSgo (t := 9) vr_36_75 rfl rfl ?_
                rw [ofNat_succ]
                refine zL_K _ _ _ _ _ _ _ _ _ (zL_pm _ _ _ [(3, _), (2, _), (0, _), (1, _), (4, _)] _ _ _ _ _ ⟨(List.forall_mem_cons.mpr ⟨List.mem_cons_self, (List.forall_mem_cons.mpr ⟨(List.mem_cons_of_mem _ List.mem_cons_self), (List.forall_mem_cons.mpr ⟨(List.mem_cons_of_mem _ (List.mem_cons_of_mem _ (List.mem_cons_of_mem _ (List.mem_cons_of_mem _ List.mem_cons_self)))), (List.forall_mem_cons.mpr ⟨(List.mem_cons_of_mem _ (List.mem_cons_of_mem _ List.mem_cons_self)), (List.forall_mem_cons.mpr ⟨(List.mem_cons_of_mem _ (List.mem_cons_of_mem _ (List.mem_cons_of_mem _ List.mem_cons_self))), (fun _ h => absurd h List.not_mem_nil)⟩)⟩)⟩)⟩)⟩), show ([3, 2, 0, 1, 4] : List Nat).Nodup by decide⟩ (C_tkN_loop n (k + 1) _ _ _ _ _ (by omega) (by omega) (d.pl pl380 (tkD_b d4).1))) (fun o h2 u2 q => ?_)
                rw [e3, nuF_y (x := (x, p)) (fun z => by rcases z with z | z | z; exact c349 z; omega; exact c377 z) c384]
                exact ⟨pl380.trans q.1, q.2⟩
              · cases e384
                cases f384
                have c384 := ndc q384
                refine zSgo (t := 78) vr_36_61 rfl rfl ?_
                refine zSiload (m := 1) (k := 2) vr_36_78 rfl rfl rfl (fun x394 e394 => ?_)
                cases e394
                refine zSiload (m := 1) (k := 1) vr_36_79 rfl rfl rfl (fun x395 e395 => ?_)
                cases e395
                refine zSb2 (f := fun x y => decide (x ≤ y)) (off := 7) (t := 87) vr_36_80 rfl rfl rfl (fun x396 y396 e396 f396 q396 => ?_) (fun x396 y396 e396 f396 q396 => ?_)
                · cases e396
                  cases f396
                  have c396 := of_decide_eq_true q396
                  refine zSiload (m := 1) (k := 2) vr_36_87 rfl rfl rfl (fun x397 e397 => ?_)
                  cases e397
                  refine zLiret vr_36_88 rfl (fun x398 e398 => ?_)
                  cases e398
                  first
                    | (have e : k = 3 := by
                         have y := c338
                         rw [i32_le, kk.2, z3] at y
                         omega
                       subst e
                       refine ⟨PL.refl d3, ?_⟩
                       first
                         | exact congrArg (fun z => Sum.inl (some (Value.int z))) (if_pos (Int32.not_le.mp c396)).symm
                         | exact congrArg (fun z => Sum.inl (some (Value.int z))) (if_neg (Int32.not_lt.mpr c396)).symm)
                    | (rw [e3, nuF_s (x := (x, p)) (Or.inl c349)]
                       refine ⟨PL.refl d3, ?_⟩
                       first
                         | exact congrArg (fun z => Sum.inl (some (Value.int z))) (if_pos (Int32.not_le.mp c396)).symm
                         | exact congrArg (fun z => Sum.inl (some (Value.int z))) (if_neg (Int32.not_lt.mpr c396)).symm)
                    | (rw [e3, nuF_s (x := (x, p)) (Or.inr (Or.inl (cl.2.mp c362)))]
                       refine ⟨PL.refl d3, ?_⟩
                       first
                         | exact congrArg (fun z => Sum.inl (some (Value.int z))) (if_pos (Int32.not_le.mp c396)).symm
                         | exact congrArg (fun z => Sum.inl (some (Value.int z))) (if_neg (Int32.not_lt.mpr c396)).symm)
                    | (rw [e3, nuF_s (x := (x, p)) (Or.inr (Or.inr (Decidable.not_not.mp c377)))]
                       refine ⟨PL.refl d3, ?_⟩
                       first
                         | exact congrArg (fun z => Sum.inl (some (Value.int z))) (if_pos (Int32.not_le.mp c396)).symm
                         | exact congrArg (fun z => Sum.inl (some (Value.int z))) (if_neg (Int32.not_lt.mpr c396)).symm)
                    | (rw [e3, nuF_n (x := (x, p)) (fun z => by rcases z with z | z | z; exact c349 z; omega; exact c377 z) (Decidable.not_not.mp c384)]
                       refine ⟨pl380, ?_⟩
                       first
                         | exact congrArg (fun z => Sum.inl (some (Value.int z))) (if_pos (Int32.not_le.mp c396)).symm
                         | exact congrArg (fun z => Sum.inl (some (Value.int z))) (if_neg (Int32.not_lt.mpr c396)).symm)
                · cases e396
                  cases f396
                  have c396 := ndc q396
                  refine zSp0 (pc' := 84) (st' := .int (-1) :: _) vr_36_83 rfl rfl ?_
                  refine zSgo (t := 88) vr_36_84 rfl rfl ?_
                  refine zLiret vr_36_88 rfl (fun x401 e401 => ?_)
                  cases e401
                  first
                    | (have e : k = 3 := by
                         have y := c338
                         rw [i32_le, kk.2, z3] at y
                         omega
                       subst e
                       refine ⟨PL.refl d3, ?_⟩
                       first
                         | exact congrArg (fun z => Sum.inl (some (Value.int z))) (if_pos (Int32.not_le.mp c396)).symm
                         | exact congrArg (fun z => Sum.inl (some (Value.int z))) (if_neg (Int32.not_lt.mpr c396)).symm)
                    | (rw [e3, nuF_s (x := (x, p)) (Or.inl c349)]
                       refine ⟨PL.refl d3, ?_⟩
                       first
                         | exact congrArg (fun z => Sum.inl (some (Value.int z))) (if_pos (Int32.not_le.mp c396)).symm
                         | exact congrArg (fun z => Sum.inl (some (Value.int z))) (if_neg (Int32.not_lt.mpr c396)).symm)
                    | (rw [e3, nuF_s (x := (x, p)) (Or.inr (Or.inl (cl.2.mp c362)))]
                       refine ⟨PL.refl d3, ?_⟩
                       first
                         | exact congrArg (fun z => Sum.inl (some (Value.int z))) (if_pos (Int32.not_le.mp c396)).symm
                         | exact congrArg (fun z => Sum.inl (some (Value.int z))) (if_neg (Int32.not_lt.mpr c396)).symm)
                    | (rw [e3, nuF_s (x := (x, p)) (Or.inr (Or.inr (Decidable.not_not.mp c377)))]
                       refine ⟨PL.refl d3, ?_⟩
                       first
                         | exact congrArg (fun z => Sum.inl (some (Value.int z))) (if_pos (Int32.not_le.mp c396)).symm
                         | exact congrArg (fun z => Sum.inl (some (Value.int z))) (if_neg (Int32.not_lt.mpr c396)).symm)
                    | (rw [e3, nuF_n (x := (x, p)) (fun z => by rcases z with z | z | z; exact c349 z; omega; exact c377 z) (Decidable.not_not.mp c384)]
                       refine ⟨pl380, ?_⟩
                       first
                         | exact congrArg (fun z => Sum.inl (some (Value.int z))) (if_pos (Int32.not_le.mp c396)).symm
                         | exact congrArg (fun z => Sum.inl (some (Value.int z))) (if_neg (Int32.not_lt.mpr c396)).symm)
            · obtain ⟨-, z⟩ := q380
              cases z
          · cases e377
            cases f377
            have c377 := ndc q377
            refine zSgo (t := 78) vr_36_44 rfl rfl ?_
            refine zSiload (m := 1) (k := 2) vr_36_78 rfl rfl rfl (fun x403 e403 => ?_)
            cases e403
            refine zSiload (m := 1) (k := 1) vr_36_79 rfl rfl rfl (fun x404 e404 => ?_)
            cases e404
            refine zSb2 (f := fun x y => decide (x ≤ y)) (off := 7) (t := 87) vr_36_80 rfl rfl rfl (fun x405 y405 e405 f405 q405 => ?_) (fun x405 y405 e405 f405 q405 => ?_)
            · cases e405
              cases f405
              have c405 := of_decide_eq_true q405
              refine zSiload (m := 1) (k := 2) vr_36_87 rfl rfl rfl (fun x406 e406 => ?_)
              cases e406
              refine zLiret vr_36_88 rfl (fun x407 e407 => ?_)
              cases e407
              first
                | (have e : k = 3 := by
                     have y := c338
                     rw [i32_le, kk.2, z3] at y
                     omega
                   subst e
                   refine ⟨PL.refl d3, ?_⟩
                   first
                     | exact congrArg (fun z => Sum.inl (some (Value.int z))) (if_pos (Int32.not_le.mp c405)).symm
                     | exact congrArg (fun z => Sum.inl (some (Value.int z))) (if_neg (Int32.not_lt.mpr c405)).symm)
                | (rw [e3, nuF_s (x := (x, p)) (Or.inl c349)]
                   refine ⟨PL.refl d3, ?_⟩
                   first
                     | exact congrArg (fun z => Sum.inl (some (Value.int z))) (if_pos (Int32.not_le.mp c405)).symm
                     | exact congrArg (fun z => Sum.inl (some (Value.int z))) (if_neg (Int32.not_lt.mpr c405)).symm)
                | (rw [e3, nuF_s (x := (x, p)) (Or.inr (Or.inl (cl.2.mp c362)))]
                   refine ⟨PL.refl d3, ?_⟩
                   first
                     | exact congrArg (fun z => Sum.inl (some (Value.int z))) (if_pos (Int32.not_le.mp c405)).symm
                     | exact congrArg (fun z => Sum.inl (some (Value.int z))) (if_neg (Int32.not_lt.mpr c405)).symm)
                | (rw [e3, nuF_s (x := (x, p)) (Or.inr (Or.inr (Decidable.not_not.mp c377)))]
                   refine ⟨PL.refl d3, ?_⟩
                   first
                     | exact congrArg (fun z => Sum.inl (some (Value.int z))) (if_pos (Int32.not_le.mp c405)).symm
                     | exact congrArg (fun z => Sum.inl (some (Value.int z))) (if_neg (Int32.not_lt.mpr c405)).symm)
                | (rw [e3, nuF_n (x := (x, p)) (fun z => by rcases z with z | z | z; exact c349 z; omega; exact c377 z) (Decidable.not_not.mp c384)]
                   refine ⟨pl380, ?_⟩
                   first
                     | exact congrArg (fun z => Sum.inl (some (Value.int z))) (if_pos (Int32.not_le.mp c405)).symm
                     | exact congrArg (fun z => Sum.inl (some (Value.int z))) (if_neg (Int32.not_lt.mpr c405)).symm)
            · cases e405
              cases f405
              have c405 := ndc q405
              refine zSp0 (pc' := 84) (st' := .int (-1) :: _) vr_36_83 rfl rfl ?_
              refine zSgo (t := 88) vr_36_84 rfl rfl ?_
              refine zLiret vr_36_88 rfl (fun x410 e410 => ?_)
              cases e410
              first
                | (have e : k = 3 := by
                     have y := c338
                     rw [i32_le, kk.2, z3] at y
                     omega
                   subst e
                   refine ⟨PL.refl d3, ?_⟩
                   first
                     | exact congrArg (fun z => Sum.inl (some (Value.int z))) (if_pos (Int32.not_le.mp c405)).symm
                     | exact congrArg (fun z => Sum.inl (some (Value.int z))) (if_neg (Int32.not_lt.mpr c405)).symm)
                | (rw [e3, nuF_s (x := (x, p)) (Or.inl c349)]
                   refine ⟨PL.refl d3, ?_⟩
                   first
                     | exact congrArg (fun z => Sum.inl (some (Value.int z))) (if_pos (Int32.not_le.mp c405)).symm
                     | exact congrArg (fun z => Sum.inl (some (Value.int z))) (if_neg (Int32.not_lt.mpr c405)).symm)
                | (rw [e3, nuF_s (x := (x, p)) (Or.inr (Or.inl (cl.2.mp c362)))]
                   refine ⟨PL.refl d3, ?_⟩
                   first
                     | exact congrArg (fun z => Sum.inl (some (Value.int z))) (if_pos (Int32.not_le.mp c405)).symm
                     | exact congrArg (fun z => Sum.inl (some (Value.int z))) (if_neg (Int32.not_lt.mpr c405)).symm)
                | (rw [e3, nuF_s (x := (x, p)) (Or.inr (Or.inr (Decidable.not_not.mp c377)))]
                   refine ⟨PL.refl d3, ?_⟩
                   first
                     | exact congrArg (fun z => Sum.inl (some (Value.int z))) (if_pos (Int32.not_le.mp c405)).symm
                     | exact congrArg (fun z => Sum.inl (some (Value.int z))) (if_neg (Int32.not_lt.mpr c405)).symm)
                | (rw [e3, nuF_n (x := (x, p)) (fun z => by rcases z with z | z | z; exact c349 z; omega; exact c377 z) (Decidable.not_not.mp c384)]
                   refine ⟨pl380, ?_⟩
                   first
                     | exact congrArg (fun z => Sum.inl (some (Value.int z))) (if_pos (Int32.not_le.mp c405)).symm
                     | exact congrArg (fun z => Sum.inl (some (Value.int z))) (if_neg (Int32.not_lt.mpr c405)).symm)
theorem C_tkN (n : Nat) (most : Int32) (h : List zC) (u : Nat) {T : Nat → Int32} {L p : Nat} (d : DT h T L p) : zL zrx zi n 36 0 [(0, .ref 183), (1, .int most)] [] h u (fun o h2 _ => PL h h2 (tkN T L most p).2 ∧ o = .inl (some (.int (tkN T L most p).1))) := by
  refine zSaload (m := 1) (k := 0) vr_36_0 rfl rfl rfl ?_
  refine zSp0 (pc' := 3) (st' := .int (10) :: _) vr_36_1 rfl rfl ?_
  refine zScall vr_36_3 rfl rfl rfl (fun m413 _ => C_tkD _ _ _ _ d) (fun v413 h413 u413 q413 => ?_) (fun E413 h413 u413 q413 => ?_)
  · obtain ⟨pl413, z413⟩ := q413
    cases z413
    show zL zrx zi _ 36 6 [(0, _), (1, _)] [_] _ _ _
    refine zSistore (m := 1) (k := 2) vr_36_6 rfl rfl (fun x414 e414 => ?_)
    cases e414
    show zL zrx zi _ 36 7 [(2, _), (0, _), (1, _)] [] _ _ _
    refine zSp0 (pc' := 8) (st' := .int (1) :: _) vr_36_7 rfl rfl ?_
    refine zSistore (m := 1) (k := 3) vr_36_8 rfl rfl (fun x416 e416 => ?_)
    cases e416
    show zL zrx zi _ 36 9 [(3, _), (2, _), (0, _), (1, _)] [] _ _ _
    refine zL_K _ _ _ _ _ _ _ _ _ (zL_pm _ _ _ [(3, _), (2, _), (0, _), (1, _), (4, _)] _ _ _ _ _ ⟨(List.forall_mem_cons.mpr ⟨List.mem_cons_self, (List.forall_mem_cons.mpr ⟨(List.mem_cons_of_mem _ List.mem_cons_self), (List.forall_mem_cons.mpr ⟨(List.mem_cons_of_mem _ (List.mem_cons_of_mem _ List.mem_cons_self)), (List.forall_mem_cons.mpr ⟨(List.mem_cons_of_mem _ (List.mem_cons_of_mem _ (List.mem_cons_of_mem _ List.mem_cons_self))), (fun _ h => absurd h List.not_mem_nil)⟩)⟩)⟩)⟩), show ([3, 2, 0, 1, 4] : List Nat).Nodup by decide⟩ (C_tkN_loop _ 1 _ _ .null _ _ (by omega) (by omega) (d.pl pl413 (tkD_b d.2.2.2.1).1))) (fun o h2 u2 q => ?_)
    exact ⟨pl413.trans q.1, q.2⟩
  · obtain ⟨-, z⟩ := q413
    cases z
theorem C_mnI (n : Nat) (a b : Int32) (h : List zC) (u : Nat) : zL zrx zi n 262 0 [(0, .int a), (1, .int b)] [] h u (fun o h2 _ => h2 = h ∧ o = .inl (some (.int (mnI a b)))) := by
  refine zSiload (m := 1) (k := 0) vr_262_0 rfl rfl rfl (fun x417 e417 => ?_)
  cases e417
  refine zSiload (m := 1) (k := 1) vr_262_1 rfl rfl rfl (fun x418 e418 => ?_)
  cases e418
  refine zSb2 (f := fun x y => decide (y < x)) (off := 7) (t := 9) vr_262_2 rfl rfl rfl (fun x419 y419 e419 f419 q419 => ?_) (fun x419 y419 e419 f419 q419 => ?_)
  · cases e419
    cases f419
    have c419 := of_decide_eq_true q419
    refine zSiload (m := 1) (k := 1) vr_262_9 rfl rfl rfl (fun x420 e420 => ?_)
    cases e420
    refine zLiret vr_262_10 rfl (fun x421 e421 => ?_)
    cases e421
    refine ⟨rfl, ?_⟩
    unfold mnI
    first
      | rw [if_pos c419]
      | rw [if_neg c419]
  · cases e419
    cases f419
    have c419 := ndc q419
    refine zSiload (m := 1) (k := 0) vr_262_5 rfl rfl rfl (fun x422 e422 => ?_)
    cases e422
    refine zSgo (t := 10) vr_262_6 rfl rfl ?_
    refine zLiret vr_262_10 rfl (fun x424 e424 => ?_)
    cases e424
    refine ⟨rfl, ?_⟩
    unfold mnI
    first
      | rw [if_pos c419]
      | rw [if_neg c419]
theorem C_mxI (n : Nat) (a b : Int32) (h : List zC) (u : Nat) : zL zrx zi n 261 0 [(0, .int a), (1, .int b)] [] h u (fun o h2 _ => h2 = h ∧ o = .inl (some (.int (mxI a b)))) := by
  refine zSiload (m := 1) (k := 0) vr_261_0 rfl rfl rfl (fun x425 e425 => ?_)
  cases e425
  refine zSiload (m := 1) (k := 1) vr_261_1 rfl rfl rfl (fun x426 e426 => ?_)
  cases e426
  refine zSb2 (f := fun x y => decide (x < y)) (off := 7) (t := 9) vr_261_2 rfl rfl rfl (fun x427 y427 e427 f427 q427 => ?_) (fun x427 y427 e427 f427 q427 => ?_)
  · cases e427
    cases f427
    have c427 := of_decide_eq_true q427
    refine zSiload (m := 1) (k := 1) vr_261_9 rfl rfl rfl (fun x428 e428 => ?_)
    cases e428
    refine zLiret vr_261_10 rfl (fun x429 e429 => ?_)
    cases e429
    refine ⟨rfl, ?_⟩
    unfold mxI
    first
      | rw [if_pos c427]
      | rw [if_neg c427]
  · cases e427
    cases f427
    have c427 := ndc q427
    refine zSiload (m := 1) (k := 0) vr_261_5 rfl rfl rfl (fun x430 e430 => ?_)
    cases e430
    refine zSgo (t := 10) vr_261_6 rfl rfl ?_
    refine zLiret vr_261_10 rfl (fun x432 e432 => ?_)
    cases e432
    refine ⟨rfl, ?_⟩
    unfold mxI
    first
      | rw [if_pos c427]
      | rw [if_neg c427]
theorem C_tkMat (n : Nat)  (h : List zC) (u : Nat) {T : Nat → Int32} {L C LS LN p : Nat} {F : Nat → Int32} (d : PS T L C LS LN h p F) : zL zrx zi n 27 0 [(0, .ref 183), (1, .ref C)] [] h u (fun o h2 _ => RS T L C LS LN h h2 (pMat T L p F) o) := by
  refine zSaload (m := 1) (k := 0) vr_27_0 rfl rfl rfl ?_
  refine zSp0 (pc' := 3) (st' := .int (109) :: _) vr_27_1 rfl rfl ?_
  refine zScall vr_27_3 rfl rfl rfl (fun m435 _ => C_tkS _ _ _ _ d.1) (fun v435 h435 u435 q435 => ?_) (fun E435 h435 u435 q435 => ?_)
  · obtain ⟨pl435, z435⟩ := q435
    cases z435
    show zL zrx zi _ 27 6 [(0, _), (1, _)] [_] _ _ _
    obtain ⟨d1, f1⟩ := d.pl pl435 (tkS_b (T := T) (c := 109) d.1.le (by decide)).1
    refine zSb1 (f := fun x => decide (¬ x = 0)) (off := 5) (t := 11) vr_27_6 rfl rfl rfl (fun x436 e436 q436 => ?_) (fun x436 e436 q436 => ?_)
    · cases e436
      have c436 := of_decide_eq_true q436
      refine zSaload (m := 1) (k := 1) vr_27_11 rfl rfl rfl ?_
      refine zSaload (m := 1) (k := 0) vr_27_12 rfl rfl rfl ?_
      refine zSp0 (pc' := 14) (st' := .int (4) :: _) vr_27_13 rfl rfl ?_
      refine zScall vr_27_14 rfl rfl rfl (fun m440 _ => C_tkD _ _ _ _ d1.1) (fun v440 h440 u440 q440 => ?_) (fun E440 h440 u440 q440 => ?_)
      · obtain ⟨pl440, z440⟩ := q440
        cases z440
        show zL zrx zi _ 27 17 [(0, _), (1, _)] [_, _] _ _ _
        obtain ⟨d2, f2⟩ := d1.pl pl440 (tkD_b (T := T) d1.1.le).1
        refine zLput vr_27_17 rfl (fun p441 k441 e441 t441 g441 => ?_)
        cases e441
        obtain ⟨d3, f3⟩ := d2.put (k := 0) (by decide) g441
        refine zSaload (m := 1) (k := 1) vr_27_20 rfl rfl rfl ?_
        refine zLget vr_27_21 rfl (fun p443 w443 e443 t443 g443 => ?_)
        cases e443
        first | (rw [(d3.fld (k := 0) (by decide) upF_eq)] at g443; cases g443) | skip
        refine zSp0 (pc' := 25) (st' := .int (-1) :: _) vr_27_24 rfl rfl ?_
        refine zSb2 (f := fun x y => decide (x = y)) (off := 7) (t := 32) vr_27_25 rfl rfl rfl (fun x445 y445 e445 f445 q445 => ?_) (fun x445 y445 e445 f445 q445 => ?_)
        · cases e445
          cases f445
          have c445 := of_decide_eq_true q445
          refine zSp0 (pc' := 33) (st' := .int (0) :: _) vr_27_32 rfl rfl ?_
          refine zLiret vr_27_33 rfl (fun x447 e447 => ?_)
          cases e447
          first
            | (refine RS.no ((f1.trans f2).trans f3) ?_
               unfold pMat
               rw [if_neg c436, if_pos c445])
            | (refine RS.ok ((f1.trans f2).trans f3) ?_ d3
               unfold pMat
               rw [if_neg c436, if_neg c445])
        · cases e445
          cases f445
          have c445 := ndc q445
          refine zSp0 (pc' := 29) (st' := .int (1) :: _) vr_27_28 rfl rfl ?_
          refine zSgo (t := 33) vr_27_29 rfl rfl ?_
          refine zLiret vr_27_33 rfl (fun x450 e450 => ?_)
          cases e450
          first
            | (refine RS.no ((f1.trans f2).trans f3) ?_
               unfold pMat
               rw [if_neg c436, if_pos c445])
            | (refine RS.ok ((f1.trans f2).trans f3) ?_ d3
               unfold pMat
               rw [if_neg c436, if_neg c445])
      · obtain ⟨-, z⟩ := q440
        cases z
    · cases e436
      have c436 := ndc q436
      refine zSp0 (pc' := 10) (st' := .int (0) :: _) vr_27_9 rfl rfl ?_
      refine zLiret vr_27_10 rfl (fun x452 e452 => ?_)
      cases e452
      refine RS.no f1 ?_
      unfold pMat
      rw [if_pos (Decidable.not_not.mp c436)]
  · obtain ⟨-, z⟩ := q435
    cases z
set_option maxRecDepth 20000 in
theorem C_tkCl_loop {T : Nat → Int32} {L C LS LN : Nat} : ∀ (n k : Nat) (last : Int32) (p : Nat) (F : Nat → Int32) (w : Value) (h : List zC) (u : Nat), k ≤ 4 → PS T L C LS LN h p F → zL zrx zi n 28 15 [(3, .int (Int32.ofNat k)), (2, .int last), (0, .ref 183), (1, .ref C), (4, w)] [] h u (fun o h2 _ => RS T L C LS LN h h2 (clF T L (4 - k) last p F) o)
  | 0, _, _, _, _, _, _, _, _, _ => trivial
  | n + 1, k, last, p, F, w, h, u, k4, d => by
    have kk := toNat_ofNat (m := k) (by omega)
    have z4 : (4 : Int32).toInt = 4 := rfl
    refine zLp vr_28_15 rfl rfl ?_
    refine zSp0 (pc' := 17) (st' := .int (4) :: _) vr_28_16 rfl rfl ?_
    refine zSb2 (f := fun x y => decide (y ≤ x)) (off := 49) (t := 66) vr_28_17 rfl rfl rfl (fun x454 y454 e454 f454 q454 => ?_) (fun x454 y454 e454 f454 q454 => ?_)
    · cases e454
      cases f454
      have c454 := of_decide_eq_true q454
      refine zSiload (m := 1) (k := 2) vr_28_66 rfl rfl rfl (fun x455 e455 => ?_)
      cases e455
      refine zSp0 (pc' := 68) (st' := .int (-1) :: _) vr_28_67 rfl rfl ?_
      refine zSb2 (f := fun x y => decide (x = y)) (off := 7) (t := 75) vr_28_68 rfl rfl rfl (fun x457 y457 e457 f457 q457 => ?_) (fun x457 y457 e457 f457 q457 => ?_)
      · cases e457
        cases f457
        have c457 := of_decide_eq_true q457
        refine zSp0 (pc' := 76) (st' := .int (0) :: _) vr_28_75 rfl rfl ?_
        refine zLiret vr_28_76 rfl (fun x459 e459 => ?_)
        cases e459
        first
          | (have e : k = 4 := by
               have y := c454
               rw [i32_le, kk.2, z4] at y
               omega
             subst e
             first
               | (refine RS.no (FrC.refl _) ?_
                  show clF T L 0 last p F = none
                  rw [clF_0, if_pos c457])
               | (refine RS.ok (FrC.refl _) ?_ d
                  show clF T L 0 last p F = _
                  rw [clF_0, if_neg c457]))
          | (refine RS.no f1 ?_
             rw [e4, clF_b (Decidable.not_not.mp c371), if_pos c457])
          | (refine RS.ok f1 ?_ d1
             rw [e4, clF_b (Decidable.not_not.mp c371), if_neg c457])
      · cases e457
        cases f457
        have c457 := ndc q457
        refine zSp0 (pc' := 72) (st' := .int (1) :: _) vr_28_71 rfl rfl ?_
        refine zSgo (t := 76) vr_28_72 rfl rfl ?_
        refine zLiret vr_28_76 rfl (fun x462 e462 => ?_)
        cases e462
        first
          | (have e : k = 4 := by
               have y := c454
               rw [i32_le, kk.2, z4] at y
               omega
             subst e
             first
               | (refine RS.no (FrC.refl _) ?_
                  show clF T L 0 last p F = none
                  rw [clF_0, if_pos c457])
               | (refine RS.ok (FrC.refl _) ?_ d
                  show clF T L 0 last p F = _
                  rw [clF_0, if_neg c457]))
          | (refine RS.no f1 ?_
             rw [e4, clF_b (Decidable.not_not.mp c371), if_pos c457])
          | (refine RS.ok f1 ?_ d1
             rw [e4, clF_b (Decidable.not_not.mp c371), if_neg c457])
    · cases e454
      cases f454
      have c454 := ndc q454
      have k3 : k < 4 := by
        have y := c454
        rw [i32_le, kk.2, z4] at y
        omega
      have e4 : 4 - k = (4 - (k + 1)) + 1 := by omega
      refine zSaload (m := 1) (k := 0) vr_28_20 rfl rfl rfl ?_
      refine zSp0 (pc' := 22) (st' := .int (4) :: _) vr_28_21 rfl rfl ?_
      refine zScall vr_28_22 rfl rfl rfl (fun m465 _ => C_tkD _ _ _ _ d.1) (fun v465 h465 u465 q465 => ?_) (fun E465 h465 u465 q465 => ?_)
      · obtain ⟨pl465, z465⟩ := q465
        cases z465
        show zL zrx zi _ 28 25 [(3, _), (2, _), (0, _), (1, _), (4, _)] [_] _ _ _
        obtain ⟨d1, f1⟩ := d.pl pl465 (tkD_b (T := T) d.1.le).1
        refine zSistore (m := 2) (k := 4) vr_28_25 rfl rfl (fun x466 e466 => ?_)
        cases e466
        show zL zrx zi _ 28 27 [(4, _), (3, _), (2, _), (0, _), (1, _)] [] _ _ _
        refine zSiload (m := 2) (k := 4) vr_28_27 rfl rfl rfl (fun x467 e467 => ?_)
        cases e467
        refine zSp0 (pc' := 30) (st' := .int (-1) :: _) vr_28_29 rfl rfl ?_
        refine zSb2 (f := fun x y => decide (¬ x = y)) (off := 6) (t := 36) vr_28_30 rfl rfl rfl (fun x469 y469 e469 f469 q469 => ?_) (fun x469 y469 e469 f469 q469 => ?_)
        · cases e469
          cases f469
          have c469 := of_decide_eq_true q469
          refine zSiload (m := 2) (k := 4) vr_28_36 rfl rfl rfl (fun x470 e470 => ?_)
          cases e470
          refine zSiload (m := 1) (k := 2) vr_28_38 rfl rfl rfl (fun x471 e471 => ?_)
          cases e471
          refine zSb2 (f := fun x y => decide (y < x)) (off := 5) (t := 44) vr_28_39 rfl rfl rfl (fun x472 y472 e472 f472 q472 => ?_) (fun x472 y472 e472 f472 q472 => ?_)
          · cases e472
            cases f472
            have c472 := of_decide_eq_true q472
            refine zSaload (m := 1) (k := 1) vr_28_44 rfl rfl rfl ?_
            refine zSdup vr_28_45 rfl ?_
            refine zLget vr_28_46 rfl (fun p475 w475 e475 t475 g475 => ?_)
            cases e475
            first | (rw [(d1.fld (k := 1) (by decide) rfl)] at g475; cases g475) | skip
            refine zSp0 (pc' := 50) (st' := .int (1) :: _) vr_28_49 rfl rfl ?_
            refine zSiload (m := 2) (k := 4) vr_28_50 rfl rfl rfl (fun x477 e477 => ?_)
            cases e477
            refine zS2 (f := fun x y => .int (x <<< (y &&& 31))) vr_28_52 rfl rfl (fun x478 y478 e478 f478 => ?_)
            cases e478
            cases f478
            refine zS2 (f := fun x y => .int (x ||| y)) vr_28_53 rfl rfl (fun x479 y479 e479 f479 => ?_)
            cases e479
            cases f479
            refine zLput vr_28_54 rfl (fun p480 k480 e480 t480 g480 => ?_)
            cases e480
            obtain ⟨d2, f2⟩ := d1.put (k := 1) (by decide) g480
            refine zSiload (m := 2) (k := 4) vr_28_57 rfl rfl rfl (fun x481 e481 => ?_)
            cases e481
            refine zSistore (m := 1) (k := 2) vr_28_59 rfl rfl (fun x482 e482 => ?_)
            cases e482
            show zL zrx zi _ 28 60 [(2, _), (4, _), (3, _), (0, _), (1, _)] [] _ _ _
            refine zSiinc vr_28_60 rfl rfl (fun x483 e483 => ?_)
            cases e483
            show zL zrx zi _ 28 63 [(3, _), (2, _), (4, _), (0, _), (1, _)] [] _ _ _
            refine zSgo (t := 15) vr_28_63 rfl rfl ?_
            rw [ofNat_succ]
            refine zL_K _ _ _ _ _ _ _ _ _ (zL_pm _ _ _ [(3, _), (2, _), (0, _), (1, _), (4, _)] _ _ _ _ _ ⟨(List.forall_mem_cons.mpr ⟨List.mem_cons_self, (List.forall_mem_cons.mpr ⟨(List.mem_cons_of_mem _ List.mem_cons_self), (List.forall_mem_cons.mpr ⟨(List.mem_cons_of_mem _ (List.mem_cons_of_mem _ (List.mem_cons_of_mem _ (List.mem_cons_of_mem _ List.mem_cons_self)))), (List.forall_mem_cons.mpr ⟨(List.mem_cons_of_mem _ (List.mem_cons_of_mem _ List.mem_cons_self)), (List.forall_mem_cons.mpr ⟨(List.mem_cons_of_mem _ (List.mem_cons_of_mem _ (List.mem_cons_of_mem _ List.mem_cons_self))), (fun _ h => absurd h List.not_mem_nil)⟩)⟩)⟩)⟩)⟩), show ([3, 2, 0, 1, 4] : List Nat).Nodup by decide⟩ (C_tkCl_loop n (k + 1) _ _ _ _ _ _ (by omega) d2)) (fun o h2 u2 q => ?_)
            rw [e4, clF_y c469 (fun z => absurd c472 (Int32.not_lt.mpr z))]
            exact q.pre (f1.trans f2)
          · cases e472
            cases f472
            have c472 := ndc q472
            refine zSp0 (pc' := 43) (st' := .int (0) :: _) vr_28_42 rfl rfl ?_
            refine zLiret vr_28_43 rfl (fun x486 e486 => ?_)
            cases e486
            refine RS.no f1 ?_
            rw [e4, clF_l c469 (Int32.not_lt.mp c472)]
        · cases e469
          cases f469
          have c469 := ndc q469
          refine zSgo (t := 66) vr_28_33 rfl rfl ?_
          refine zSiload (m := 1) (k := 2) vr_28_66 rfl rfl rfl (fun x488 e488 => ?_)
          cases e488
          refine zSp0 (pc' := 68) (st' := .int (-1) :: _) vr_28_67 rfl rfl ?_
          refine zSb2 (f := fun x y => decide (x = y)) (off := 7) (t := 75) vr_28_68 rfl rfl rfl (fun x490 y490 e490 f490 q490 => ?_) (fun x490 y490 e490 f490 q490 => ?_)
          · cases e490
            cases f490
            have c490 := of_decide_eq_true q490
            refine zSp0 (pc' := 76) (st' := .int (0) :: _) vr_28_75 rfl rfl ?_
            refine zLiret vr_28_76 rfl (fun x492 e492 => ?_)
            cases e492
            first
              | (have e : k = 4 := by
                   have y := c454
                   rw [i32_le, kk.2, z4] at y
                   omega
                 subst e
                 first
                   | (refine RS.no (FrC.refl _) ?_
                      show clF T L 0 last p F = none
                      rw [clF_0, if_pos c490])
                   | (refine RS.ok (FrC.refl _) ?_ d
                      show clF T L 0 last p F = _
                      rw [clF_0, if_neg c490]))
              | (refine RS.no f1 ?_
                 rw [e4, clF_b (Decidable.not_not.mp c469), if_pos c490])
              | (refine RS.ok f1 ?_ d1
                 rw [e4, clF_b (Decidable.not_not.mp c469), if_neg c490])
          · cases e490
            cases f490
            have c490 := ndc q490
            refine zSp0 (pc' := 72) (st' := .int (1) :: _) vr_28_71 rfl rfl ?_
            refine zSgo (t := 76) vr_28_72 rfl rfl ?_
            refine zLiret vr_28_76 rfl (fun x495 e495 => ?_)
            cases e495
            first
              | (have e : k = 4 := by
                   have y := c454
                   rw [i32_le, kk.2, z4] at y
                   omega
                 subst e
                 first
                   | (refine RS.no (FrC.refl _) ?_
                      show clF T L 0 last p F = none
                      rw [clF_0, if_pos c490])
                   | (refine RS.ok (FrC.refl _) ?_ d
                      show clF T L 0 last p F = _
                      rw [clF_0, if_neg c490]))
              | (refine RS.no f1 ?_
                 rw [e4, clF_b (Decidable.not_not.mp c469), if_pos c490])
              | (refine RS.ok f1 ?_ d1
                 rw [e4, clF_b (Decidable.not_not.mp c469), if_neg c490])
      · obtain ⟨-, z⟩ := q465
        cases z
theorem C_tkCls (n : Nat)  (h : List zC) (u : Nat) {T : Nat → Int32} {L C LS LN p : Nat} {F : Nat → Int32} (d : PS T L C LS LN h p F) : zL zrx zi n 28 0 [(0, .ref 183), (1, .ref C)] [] h u (fun o h2 _ => RS T L C LS LN h h2 (pCls T L p F) o) := by
  refine zSaload (m := 1) (k := 0) vr_28_0 rfl rfl rfl ?_
  refine zSp0 (pc' := 3) (st' := .int (99) :: _) vr_28_1 rfl rfl ?_
  refine zScall vr_28_3 rfl rfl rfl (fun m498 _ => C_tkS _ _ _ _ d.1) (fun v498 h498 u498 q498 => ?_) (fun E498 h498 u498 q498 => ?_)
  · obtain ⟨pl498, z498⟩ := q498
    cases z498
    show zL zrx zi _ 28 6 [(0, _), (1, _)] [_] _ _ _
    obtain ⟨d1, f1⟩ := d.pl pl498 (tkS_b (T := T) (c := 99) d.1.le (by decide)).1
    refine zSb1 (f := fun x => decide (¬ x = 0)) (off := 5) (t := 11) vr_28_6 rfl rfl rfl (fun x499 e499 q499 => ?_) (fun x499 e499 q499 => ?_)
    · cases e499
      have c499 := of_decide_eq_true q499
      refine zSp0 (pc' := 12) (st' := .int (-1) :: _) vr_28_11 rfl rfl ?_
      refine zSistore (m := 1) (k := 2) vr_28_12 rfl rfl (fun x501 e501 => ?_)
      cases e501
      show zL zrx zi _ 28 13 [(2, _), (0, _), (1, _)] [] _ _ _
      refine zSp0 (pc' := 14) (st' := .int (0) :: _) vr_28_13 rfl rfl ?_
      refine zSistore (m := 1) (k := 3) vr_28_14 rfl rfl (fun x503 e503 => ?_)
      cases e503
      show zL zrx zi _ 28 15 [(3, _), (2, _), (0, _), (1, _)] [] _ _ _
      refine zL_K _ _ _ _ _ _ _ _ _ (zL_pm _ _ _ [(3, _), (2, _), (0, _), (1, _), (4, _)] _ _ _ _ _ ⟨(List.forall_mem_cons.mpr ⟨List.mem_cons_self, (List.forall_mem_cons.mpr ⟨(List.mem_cons_of_mem _ List.mem_cons_self), (List.forall_mem_cons.mpr ⟨(List.mem_cons_of_mem _ (List.mem_cons_of_mem _ List.mem_cons_self)), (List.forall_mem_cons.mpr ⟨(List.mem_cons_of_mem _ (List.mem_cons_of_mem _ (List.mem_cons_of_mem _ List.mem_cons_self))), (fun _ h => absurd h List.not_mem_nil)⟩)⟩)⟩)⟩), show ([3, 2, 0, 1, 4] : List Nat).Nodup by decide⟩ (C_tkCl_loop _ 0 _ _ _ .null _ _ (by omega) d1)) (fun o h2 u2 q => ?_)
      unfold pCls
      rw [if_neg c499]
      exact q.pre f1
    · cases e499
      have c499 := ndc q499
      refine zSp0 (pc' := 10) (st' := .int (0) :: _) vr_28_9 rfl rfl ?_
      refine zLiret vr_28_10 rfl (fun x505 e505 => ?_)
      cases e505
      refine RS.no f1 ?_
      unfold pCls
      rw [if_pos (Decidable.not_not.mp c499)]
  · obtain ⟨-, z⟩ := q498
    cases z
theorem C_addL (n : Nat) (s x : Int32) (h : List zC) (u : Nat) {T : Nat → Int32} {L C LS LN p : Nat} {F : Nat → Int32} (d : PS T L C LS LN h p F) : zL zrx zi n 3 0 [(0, .ref C), (1, .int s), (2, .int x)] [] h u (fun o h2 _ => FrC C LS LN h h2 ∧ ∃ b : Int32, o = .inl (some (.int b)) ∧ ((b = 0 ∧ 2 ≤ F 8) ∨ (b = 1 ∧ ¬ 2 ≤ F 8 ∧ PS T L C LS LN h2 p (adF F s x)))) := by
  refine zSaload (m := 1) (k := 0) vr_3_0 rfl rfl rfl ?_
  refine zLget vr_3_1 rfl (fun p507 w507 e507 t507 g507 => ?_)
  cases e507
  first | (rw [(d.fld (k := 8) (by decide) rfl)] at g507; cases g507) | (rw [d.2.2.1] at g507; cases g507) | (rw [d.2.2.2.1] at g507; cases g507) | skip
  refine zSp0 (pc' := 5) (st' := .int (2) :: _) vr_3_4 rfl rfl ?_
  refine zSb2 (f := fun x y => decide (x < y)) (off := 5) (t := 10) vr_3_5 rfl rfl rfl (fun x509 y509 e509 f509 q509 => ?_) (fun x509 y509 e509 f509 q509 => ?_)
  · cases e509
    cases f509
    have c509 := of_decide_eq_true q509
    refine zSaload (m := 1) (k := 0) vr_3_10 rfl rfl rfl ?_
    refine zLget vr_3_11 rfl (fun p511 w511 e511 t511 g511 => ?_)
    cases e511
    first | (rw [(d.fld (k := 8) (by decide) rfl)] at g511; cases g511) | (rw [d.2.2.1] at g511; cases g511) | (rw [d.2.2.2.1] at g511; cases g511) | skip
    refine zSaload (m := 1) (k := 0) vr_3_14 rfl rfl rfl ?_
    refine zLget vr_3_15 rfl (fun p513 w513 e513 t513 g513 => ?_)
    cases e513
    first | (rw [(d.fld (k := 8) (by decide) rfl)] at g513; cases g513) | (rw [d.2.2.1] at g513; cases g513) | (rw [d.2.2.2.1] at g513; cases g513) | skip
    refine zSiload (m := 1) (k := 1) vr_3_18 rfl rfl rfl (fun x514 e514 => ?_)
    cases e514
    refine zLiast vr_3_19 rfl (fun p515 x515 z515 k515 e515 f515 d515 c515 t515 g515 => ?_)
    cases e515
    cases f515
    cases d515
    have i2 : (F 8).toNatClampNeg < 2 := by
      have y := c509
      have y2 := c515
      have z2 : (2 : Int32).toInt = 2 := rfl
      have z0 : (0 : Int32).toInt = 0 := rfl
      rw [i32_lt] at y y2
      show (F 8).toInt.toNat < 2
      omega
    obtain ⟨d1, f1⟩ := d.putS i2 g515
    have e8 : upF F (9 + (F 8).toNatClampNeg) s 8 = F 8 := upF_ne (by omega)
    refine zSaload (m := 1) (k := 0) vr_3_20 rfl rfl rfl ?_
    refine zLget vr_3_21 rfl (fun p517 w517 e517 t517 g517 => ?_)
    cases e517
    first | (rw [(d1.fld (k := 8) (by decide) e8)] at g517; cases g517) | (rw [d1.2.2.1] at g517; cases g517) | (rw [d1.2.2.2.1] at g517; cases g517) | skip
    refine zSaload (m := 1) (k := 0) vr_3_24 rfl rfl rfl ?_
    refine zLget vr_3_25 rfl (fun p519 w519 e519 t519 g519 => ?_)
    cases e519
    first | (rw [(d1.fld (k := 8) (by decide) e8)] at g519; cases g519) | (rw [d1.2.2.1] at g519; cases g519) | (rw [d1.2.2.2.1] at g519; cases g519) | skip
    refine zSiload (m := 1) (k := 2) vr_3_28 rfl rfl rfl (fun x520 e520 => ?_)
    cases e520
    refine zLiast vr_3_29 rfl (fun p521 x521 z521 k521 e521 f521 d521 c521 t521 g521 => ?_)
    cases e521
    cases f521
    cases d521
    obtain ⟨d2, f2⟩ := d1.putN i2 g521
    have e9 : upF (upF F (9 + (F 8).toNatClampNeg) s) (11 + (F 8).toNatClampNeg) x 8 = F 8 := (upF_ne (by omega)).trans e8
    refine zSaload (m := 1) (k := 0) vr_3_30 rfl rfl rfl ?_
    refine zSdup vr_3_31 rfl ?_
    refine zLget vr_3_32 rfl (fun p524 w524 e524 t524 g524 => ?_)
    cases e524
    first | (rw [(d2.fld (k := 8) (by decide) e9)] at g524; cases g524) | (rw [d2.2.2.1] at g524; cases g524) | (rw [d2.2.2.2.1] at g524; cases g524) | skip
    refine zSp0 (pc' := 36) (st' := .int (1) :: _) vr_3_35 rfl rfl ?_
    refine zS2 (f := fun x y => .int (x + y)) vr_3_36 rfl rfl (fun x526 y526 e526 f526 => ?_)
    cases e526
    cases f526
    refine zLput vr_3_37 rfl (fun p527 k527 e527 t527 g527 => ?_)
    cases e527
    obtain ⟨d3, f3⟩ := d2.put (k := 8) (by decide) g527
    have ff := (f1.trans f2).trans f3
    have e5 : adL F s x 5 = F 5 := ((upF_ne (by decide)).trans (upF_ne (by omega))).trans (upF_ne (by omega))
    have e4 : adL F s x 4 = F 4 := ((upF_ne (by decide)).trans (upF_ne (by omega))).trans (upF_ne (by omega))
    have d3 : PS T L C LS LN k527 p (adL F s x) := d3
    refine zSiload (m := 1) (k := 1) vr_3_40 rfl rfl rfl (fun x528 e528 => ?_)
    cases e528
    refine zSp0 (pc' := 43) (st' := .int (60) :: _) vr_3_41 rfl rfl ?_
    refine zSb2 (f := fun x y => decide (¬ x = y)) (off := 20) (t := 63) vr_3_43 rfl rfl rfl (fun x530 y530 e530 f530 q530 => ?_) (fun x530 y530 e530 f530 q530 => ?_)
    · cases e530
      cases f530
      have c530 := of_decide_eq_true q530
      refine zSaload (m := 1) (k := 0) vr_3_63 rfl rfl rfl ?_
      refine zSaload (m := 1) (k := 0) vr_3_64 rfl rfl rfl ?_
      refine zLget vr_3_65 rfl (fun p533 w533 e533 t533 g533 => ?_)
      cases e533
      first | (rw [(d3.fld (k := 5) (by decide) e5)] at g533; cases g533) | (rw [(d3.fld (k := 4) (by decide) e4)] at g533; cases g533) | skip
      refine zSiload (m := 1) (k := 2) vr_3_68 rfl rfl rfl (fun x534 e534 => ?_)
      cases e534
      refine zSp0 (pc' := 70) (st' := .int (1) :: _) vr_3_69 rfl rfl ?_
      refine zS2 (f := fun x y => .int (x + y)) vr_3_70 rfl rfl (fun x536 y536 e536 f536 => ?_)
      cases e536
      cases f536
      refine zScall vr_3_71 rfl rfl rfl (fun m537 _ => C_mxI _ _ _ _ _) (fun v537 h537 u537 q537 => ?_) (fun E537 h537 u537 q537 => ?_)
      · obtain ⟨eh537, z537⟩ := q537
        subst eh537
        cases z537
        show zL zrx zi _ 3 74 [(0, _), (1, _), (2, _)] [_, _] _ _ _
        refine zLput vr_3_74 rfl (fun p538 k538 e538 t538 g538 => ?_)
        cases e538
        refine zSp0 (pc' := 78) (st' := .int (1) :: _) vr_3_77 rfl rfl ?_
        refine zLiret vr_3_78 rfl (fun x540 e540 => ?_)
        cases e540
        first
          | (refine ⟨ff.trans f4, _, rfl, Or.inr ⟨rfl, fun z => absurd c509 (Int32.not_lt.mpr z), ?_⟩⟩
             unfold adF
             rw [if_pos (Decidable.not_not.mp c530)]
             exact d4)
          | (obtain ⟨d4, f4⟩ := d3.put (k := 4) (by decide) g538
             refine ⟨ff.trans f4, _, rfl, Or.inr ⟨rfl, fun z => absurd c509 (Int32.not_lt.mpr z), ?_⟩⟩
             unfold adF
             rw [if_neg c530]
             exact d4)
      · obtain ⟨-, z⟩ := q537
        cases z
    · cases e530
      cases f530
      have c530 := ndc q530
      refine zSaload (m := 1) (k := 0) vr_3_46 rfl rfl rfl ?_
      refine zSaload (m := 1) (k := 0) vr_3_47 rfl rfl rfl ?_
      refine zLget vr_3_48 rfl (fun p543 w543 e543 t543 g543 => ?_)
      cases e543
      first | (rw [(d3.fld (k := 5) (by decide) e5)] at g543; cases g543) | (rw [(d3.fld (k := 4) (by decide) e4)] at g543; cases g543) | skip
      refine zSiload (m := 1) (k := 2) vr_3_51 rfl rfl rfl (fun x544 e544 => ?_)
      cases e544
      refine zSp0 (pc' := 53) (st' := .int (1) :: _) vr_3_52 rfl rfl ?_
      refine zS2 (f := fun x y => .int (x - y)) vr_3_53 rfl rfl (fun x546 y546 e546 f546 => ?_)
      cases e546
      cases f546
      refine zScall vr_3_54 rfl rfl rfl (fun m547 _ => C_mnI _ _ _ _ _) (fun v547 h547 u547 q547 => ?_) (fun E547 h547 u547 q547 => ?_)
      · obtain ⟨eh547, z547⟩ := q547
        subst eh547
        cases z547
        show zL zrx zi _ 3 57 [(0, _), (1, _), (2, _)] [_, _] _ _ _
        refine zLput vr_3_57 rfl (fun p548 k548 e548 t548 g548 => ?_)
        cases e548
        obtain ⟨d4, f4⟩ := d3.put (k := 5) (by decide) g548
        refine zSgo (t := 77) vr_3_60 rfl rfl ?_
        refine zSp0 (pc' := 78) (st' := .int (1) :: _) vr_3_77 rfl rfl ?_
        refine zLiret vr_3_78 rfl (fun x551 e551 => ?_)
        cases e551
        first
          | (refine ⟨ff.trans f4, _, rfl, Or.inr ⟨rfl, fun z => absurd c509 (Int32.not_lt.mpr z), ?_⟩⟩
             unfold adF
             rw [if_pos (Decidable.not_not.mp c530)]
             exact d4)
          | (obtain ⟨d4, f4⟩ := d3.put (k := 4) (by decide) g538
             refine ⟨ff.trans f4, _, rfl, Or.inr ⟨rfl, fun z => absurd c509 (Int32.not_lt.mpr z), ?_⟩⟩
             unfold adF
             rw [if_neg c530]
             exact d4)
      · obtain ⟨-, z⟩ := q547
        cases z
  · cases e509
    cases f509
    have c509 := ndc q509
    refine zSp0 (pc' := 9) (st' := .int (0) :: _) vr_3_8 rfl rfl ?_
    refine zLiret vr_3_9 rfl (fun x553 e553 => ?_)
    cases e553
    exact ⟨FrC.refl _, _, rfl, Or.inl ⟨rfl, Int32.not_lt.mp c509⟩⟩
theorem C_tkCo (n : Nat)  (h : List zC) (u : Nat) {T : Nat → Int32} {L C LS LN p : Nat} {F : Nat → Int32} (d : PS T L C LS LN h p F) : zL zrx zi n 30 0 [(0, .ref 183), (1, .ref C)] [] h u (fun o h2 _ => RS T L C LS LN h h2 (pCon T L p F) o) := by
  refine zSaload (m := 1) (k := 0) vr_30_0 rfl rfl rfl ?_
  refine zScall vr_30_1 rfl rfl rfl (fun m555 _ => C_ns _ _ _ _ d.1) (fun v555 h555 u555 q555 => ?_) (fun E555 h555 u555 q555 => ?_)
  · obtain ⟨pl555, z555⟩ := q555
    cases z555
    show zL zrx zi _ 30 4 [(0, _), (1, _)] [_] _ _ _
    obtain ⟨d1, f1⟩ := d.pl pl555 (skp_b (T := T) _ p rfl d.1.le).2.1
    refine zSistore (m := 1) (k := 2) vr_30_4 rfl rfl (fun x556 e556 => ?_)
    cases e556
    show zL zrx zi _ 30 5 [(2, _), (0, _), (1, _)] [] _ _ _
    refine zSiload (m := 1) (k := 2) vr_30_5 rfl rfl rfl (fun x557 e557 => ?_)
    cases e557
    refine zSp0 (pc' := 8) (st' := .int (43) :: _) vr_30_6 rfl rfl ?_
    refine zSb2 (f := fun x y => decide (x = y)) (off := 9) (t := 17) vr_30_8 rfl rfl rfl (fun x559 y559 e559 f559 q559 => ?_) (fun x559 y559 e559 f559 q559 => ?_)
    · cases e559
      cases f559
      have c559 := of_decide_eq_true q559
      have hs : sg T L p = 43 ∨ sg T L p = 45 := by
        first
          | exact Or.inl c559
          | exact Or.inr (Decidable.not_not.mp c512)
      have hlt : skp T L p + 1 ≤ L := sg_lt (T := T) (by
        rcases hs with z | z
        · rw [z]
          decide
        · rw [z]
          decide)
      refine zSaload (m := 1) (k := 0) vr_30_17 rfl rfl rfl ?_
      refine zSdup vr_30_18 rfl ?_
      refine zLget vr_30_19 rfl (fun p562 w562 e562 t562 g562 => ?_)
      cases e562
      first | (rw [d1.1.at] at g562; cases g562) | skip
      refine zSp0 (pc' := 23) (st' := .int (1) :: _) vr_30_22 rfl rfl ?_
      refine zS2 (f := fun x y => .int (x + y)) vr_30_23 rfl rfl (fun x564 y564 e564 f564 => ?_)
      cases e564
      cases f564
      refine zLput vr_30_24 rfl (fun p565 k565 e565 t565 g565 => ?_)
      cases e565
      have g0 := g565
      rw [ofNat_succ1] at g0
      obtain ⟨d2, f2⟩ := d1.pl ((PL.refl d1.1.at).put g0) hlt
      refine zSaload (m := 1) (k := 0) vr_30_27 rfl rfl rfl ?_
      refine zSp0 (pc' := 30) (st' := .int (6) :: _) vr_30_28 rfl rfl ?_
      refine zScall vr_30_30 rfl rfl rfl (fun m568 _ => C_tkD _ _ _ _ d2.1) (fun v568 h568 u568 q568 => ?_) (fun E568 h568 u568 q568 => ?_)
      · obtain ⟨pl568, z568⟩ := q568
        cases z568
        show zL zrx zi _ 30 33 [(2, _), (0, _), (1, _)] [_] _ _ _
        obtain ⟨d3, f3⟩ := d2.pl pl568 (tkD_b (T := T) d2.1.le).1
        have ff := (f1.trans f2).trans f3
        refine zSistore (m := 1) (k := 3) vr_30_33 rfl rfl (fun x569 e569 => ?_)
        cases e569
        show zL zrx zi _ 30 34 [(3, _), (2, _), (0, _), (1, _)] [] _ _ _
        refine zSiload (m := 1) (k := 3) vr_30_34 rfl rfl rfl (fun x570 e570 => ?_)
        cases e570
        refine zSp0 (pc' := 36) (st' := .int (-1) :: _) vr_30_35 rfl rfl ?_
        refine zSb2 (f := fun x y => decide (¬ x = y)) (off := 5) (t := 41) vr_30_36 rfl rfl rfl (fun x572 y572 e572 f572 q572 => ?_) (fun x572 y572 e572 f572 q572 => ?_)
        · cases e572
          cases f572
          have c572 := of_decide_eq_true q572
          refine zSiload (m := 1) (k := 2) vr_30_41 rfl rfl rfl (fun x573 e573 => ?_)
          cases e573
          refine zSp0 (pc' := 44) (st' := .int (43) :: _) vr_30_42 rfl rfl ?_
          refine zSb2 (f := fun x y => decide (¬ x = y)) (off := 18) (t := 62) vr_30_44 rfl rfl rfl (fun x575 y575 e575 f575 q575 => ?_) (fun x575 y575 e575 f575 q575 => ?_)
          · cases e575
            cases f575
            have c575 := of_decide_eq_true q575
            refine zSaload (m := 1) (k := 1) vr_30_62 rfl rfl rfl ?_
            refine zSdup vr_30_63 rfl ?_
            refine zLget vr_30_64 rfl (fun p578 w578 e578 t578 g578 => ?_)
            cases e578
            first | (rw [(d3.fld (k := 2) (by decide) rfl)] at g578; cases g578) | (rw [(d3.fld (k := 3) (by decide) rfl)] at g578; cases g578) | skip
            refine zSp0 (pc' := 68) (st' := .int (1) :: _) vr_30_67 rfl rfl ?_
            refine zSiload (m := 1) (k := 3) vr_30_68 rfl rfl rfl (fun x580 e580 => ?_)
            cases e580
            refine zS2 (f := fun x y => .int (x <<< (y &&& 31))) vr_30_69 rfl rfl (fun x581 y581 e581 f581 => ?_)
            cases e581
            cases f581
            refine zS2 (f := fun x y => .int (x ||| y)) vr_30_70 rfl rfl (fun x582 y582 e582 f582 => ?_)
            cases e582
            cases f582
            refine zLput vr_30_71 rfl (fun p583 k583 e583 t583 g583 => ?_)
            cases e583
            refine zSp0 (pc' := 75) (st' := .int (1) :: _) vr_30_74 rfl rfl ?_
            refine zLiret vr_30_75 rfl (fun x585 e585 => ?_)
            cases e585
            first
              | (refine RS.ok (ff.trans f4) ?_ d4
                 unfold pCon
                 rw [if_pos hs, if_neg c572, if_pos (Decidable.not_not.mp c575)])
              | (obtain ⟨d4, f4⟩ := d3.put (k := 3) (by decide) g583
                 refine RS.ok (ff.trans f4) ?_ d4
                 unfold pCon
                 rw [if_pos hs, if_neg c572, if_neg c575])
          · cases e575
            cases f575
            have c575 := ndc q575
            refine zSaload (m := 1) (k := 1) vr_30_47 rfl rfl rfl ?_
            refine zSdup vr_30_48 rfl ?_
            refine zLget vr_30_49 rfl (fun p588 w588 e588 t588 g588 => ?_)
            cases e588
            first | (rw [(d3.fld (k := 2) (by decide) rfl)] at g588; cases g588) | (rw [(d3.fld (k := 3) (by decide) rfl)] at g588; cases g588) | skip
            refine zSp0 (pc' := 53) (st' := .int (1) :: _) vr_30_52 rfl rfl ?_
            refine zSiload (m := 1) (k := 3) vr_30_53 rfl rfl rfl (fun x590 e590 => ?_)
            cases e590
            refine zS2 (f := fun x y => .int (x <<< (y &&& 31))) vr_30_54 rfl rfl (fun x591 y591 e591 f591 => ?_)
            cases e591
            cases f591
            refine zS2 (f := fun x y => .int (x ||| y)) vr_30_55 rfl rfl (fun x592 y592 e592 f592 => ?_)
            cases e592
            cases f592
            refine zLput vr_30_56 rfl (fun p593 k593 e593 t593 g593 => ?_)
            cases e593
            obtain ⟨d4, f4⟩ := d3.put (k := 2) (by decide) g593
            refine zSgo (t := 74) vr_30_59 rfl rfl ?_
            refine zSp0 (pc' := 75) (st' := .int (1) :: _) vr_30_74 rfl rfl ?_
            refine zLiret vr_30_75 rfl (fun x596 e596 => ?_)
            cases e596
            first
              | (refine RS.ok (ff.trans f4) ?_ d4
                 unfold pCon
                 rw [if_pos hs, if_neg c572, if_pos (Decidable.not_not.mp c575)])
              | (obtain ⟨d4, f4⟩ := d3.put (k := 3) (by decide) g583
                 refine RS.ok (ff.trans f4) ?_ d4
                 unfold pCon
                 rw [if_pos hs, if_neg c572, if_neg c575])
        · cases e572
          cases f572
          have c572 := ndc q572
          refine zSp0 (pc' := 40) (st' := .int (0) :: _) vr_30_39 rfl rfl ?_
          refine zLiret vr_30_40 rfl (fun x598 e598 => ?_)
          cases e598
          refine RS.no ff ?_
          unfold pCon
          rw [if_pos hs, if_pos (Decidable.not_not.mp c572)]
      · obtain ⟨-, z⟩ := q568
        cases z
    · cases e559
      cases f559
      have c559 := ndc q559
      refine zSiload (m := 1) (k := 2) vr_30_11 rfl rfl rfl (fun x599 e599 => ?_)
      cases e599
      refine zSp0 (pc' := 14) (st' := .int (45) :: _) vr_30_12 rfl rfl ?_
      refine zSb2 (f := fun x y => decide (¬ x = y)) (off := 62) (t := 76) vr_30_14 rfl rfl rfl (fun x601 y601 e601 f601 q601 => ?_) (fun x601 y601 e601 f601 q601 => ?_)
      · cases e601
        cases f601
        have c601 := of_decide_eq_true q601
        refine zSiload (m := 1) (k := 2) vr_30_76 rfl rfl rfl (fun x602 e602 => ?_)
        cases e602
        refine zSp0 (pc' := 79) (st' := .int (60) :: _) vr_30_77 rfl rfl ?_
        refine zSb2 (f := fun x y => decide (x = y)) (off := 9) (t := 88) vr_30_79 rfl rfl rfl (fun x604 y604 e604 f604 q604 => ?_) (fun x604 y604 e604 f604 q604 => ?_)
        · cases e604
          cases f604
          have c604 := of_decide_eq_true q604
          have hn : ¬ (sg T L p = 43 ∨ sg T L p = 45) := fun z => by
            rcases z with z | z
            · exact c559 z
            · exact c601 z
          have hm : sg T L p = 60 ∨ sg T L p = 62 := by
            first
              | exact Or.inl c604
              | exact Or.inr (Decidable.not_not.mp c0)
          have hlt : skp T L p + 1 ≤ L := sg_lt (T := T) (by
            rcases hm with z | z
            · rw [z]
              decide
            · rw [z]
              decide)
          refine zSaload (m := 1) (k := 0) vr_30_88 rfl rfl rfl ?_
          refine zSdup vr_30_89 rfl ?_
          refine zLget vr_30_90 rfl (fun p607 w607 e607 t607 g607 => ?_)
          cases e607
          first | (rw [d1.1.at] at g607; cases g607) | skip
          refine zSp0 (pc' := 94) (st' := .int (1) :: _) vr_30_93 rfl rfl ?_
          refine zS2 (f := fun x y => .int (x + y)) vr_30_94 rfl rfl (fun x609 y609 e609 f609 => ?_)
          cases e609
          cases f609
          refine zLput vr_30_95 rfl (fun p610 k610 e610 t610 g610 => ?_)
          cases e610
          have g0 := g610
          rw [ofNat_succ1] at g0
          obtain ⟨d2, f2⟩ := d1.pl ((PL.refl d1.1.at).put g0) hlt
          refine zSaload (m := 1) (k := 0) vr_30_98 rfl rfl rfl ?_
          refine zSp0 (pc' := 102) (st' := .int (999) :: _) vr_30_99 rfl rfl ?_
          refine zScall vr_30_102 rfl rfl rfl (fun m613 _ => C_tkN _ _ _ _ d2.1) (fun v613 h613 u613 q613 => ?_) (fun E613 h613 u613 q613 => ?_)
          · obtain ⟨pl613, z613⟩ := q613
            cases z613
            show zL zrx zi _ 30 105 [(2, _), (0, _), (1, _)] [_] _ _ _
            obtain ⟨d3, f3⟩ := d2.pl pl613 (tkN_b (T := T) d2.1.le).1
            have ff := (f1.trans f2).trans f3
            refine zSistore (m := 1) (k := 3) vr_30_105 rfl rfl (fun x614 e614 => ?_)
            cases e614
            show zL zrx zi _ 30 106 [(3, _), (2, _), (0, _), (1, _)] [] _ _ _
            refine zSiload (m := 1) (k := 3) vr_30_106 rfl rfl rfl (fun x615 e615 => ?_)
            cases e615
            refine zSp0 (pc' := 108) (st' := .int (-1) :: _) vr_30_107 rfl rfl ?_
            refine zSb2 (f := fun x y => decide (x = y)) (off := 16) (t := 124) vr_30_108 rfl rfl rfl (fun x617 y617 e617 f617 q617 => ?_) (fun x617 y617 e617 f617 q617 => ?_)
            · cases e617
              cases f617
              have c617 := of_decide_eq_true q617
              refine zSp0 (pc' := 125) (st' := .int (0) :: _) vr_30_124 rfl rfl ?_
              refine zLiret vr_30_125 rfl (fun x619 e619 => ?_)
              cases e619
              first
                | (refine RS.no (ff.trans fr0) ?_
                   rcases r0 with ⟨-, z⟩ | ⟨z, -⟩
                   · unfold pCon
                     rw [if_neg hn, if_pos hm, if_neg c617, if_pos z]
                   · have y := c0
                     rw [z] at y
                     exact absurd y (by decide))
                | (rcases r0 with ⟨z, -⟩ | ⟨-, z, y⟩
                   · exact absurd z c0
                   · refine RS.ok (ff.trans fr0) ?_ y
                     unfold pCon
                     rw [if_neg hn, if_pos hm, if_neg c617, if_neg z])
                | (refine RS.no ff ?_
                   unfold pCon
                   rw [if_neg hn, if_pos hm, if_pos c617])
            · cases e617
              cases f617
              have c617 := ndc q617
              refine zSaload (m := 1) (k := 1) vr_30_111 rfl rfl rfl ?_
              refine zSiload (m := 1) (k := 2) vr_30_112 rfl rfl rfl (fun x621 e621 => ?_)
              cases e621
              refine zSiload (m := 1) (k := 3) vr_30_113 rfl rfl rfl (fun x622 e622 => ?_)
              cases e622
              refine zScall vr_30_114 rfl rfl rfl (fun m623 _ => C_addL _ _ _ _ _ d3) (fun v623 h623 u623 q623 => ?_) (fun E623 h623 u623 q623 => ?_)
              · obtain ⟨fr623, b623, z623, r623⟩ := q623
                cases z623
                show zL zrx zi _ 30 117 [(3, _), (2, _), (0, _), (1, _)] [_] _ _ _
                refine zSb1 (f := fun x => decide (x = 0)) (off := 7) (t := 124) vr_30_117 rfl rfl rfl (fun x624 e624 q624 => ?_) (fun x624 e624 q624 => ?_)
                · cases e624
                  have c624 := of_decide_eq_true q624
                  refine zSp0 (pc' := 125) (st' := .int (0) :: _) vr_30_124 rfl rfl ?_
                  refine zLiret vr_30_125 rfl (fun x626 e626 => ?_)
                  cases e626
                  first
                    | (refine RS.no (ff.trans fr623) ?_
                       rcases r623 with ⟨-, z⟩ | ⟨z, -⟩
                       · unfold pCon
                         rw [if_neg hn, if_pos hm, if_neg c617, if_pos z]
                       · have y := c624
                         rw [z] at y
                         exact absurd y (by decide))
                    | (rcases r623 with ⟨z, -⟩ | ⟨-, z, y⟩
                       · exact absurd z c624
                       · refine RS.ok (ff.trans fr623) ?_ y
                         unfold pCon
                         rw [if_neg hn, if_pos hm, if_neg c617, if_neg z])
                    | (refine RS.no ff ?_
                       unfold pCon
                       rw [if_neg hn, if_pos hm, if_pos c617])
                · cases e624
                  have c624 := ndc q624
                  refine zSp0 (pc' := 121) (st' := .int (1) :: _) vr_30_120 rfl rfl ?_
                  refine zSgo (t := 125) vr_30_121 rfl rfl ?_
                  refine zLiret vr_30_125 rfl (fun x629 e629 => ?_)
                  cases e629
                  first
                    | (refine RS.no (ff.trans fr623) ?_
                       rcases r623 with ⟨-, z⟩ | ⟨z, -⟩
                       · unfold pCon
                         rw [if_neg hn, if_pos hm, if_neg c617, if_pos z]
                       · have y := c624
                         rw [z] at y
                         exact absurd y (by decide))
                    | (rcases r623 with ⟨z, -⟩ | ⟨-, z, y⟩
                       · exact absurd z c624
                       · refine RS.ok (ff.trans fr623) ?_ y
                         unfold pCon
                         rw [if_neg hn, if_pos hm, if_neg c617, if_neg z])
                    | (refine RS.no ff ?_
                       unfold pCon
                       rw [if_neg hn, if_pos hm, if_pos c617])
              · obtain ⟨-, _, z, -⟩ := q623
                cases z
          · obtain ⟨-, z⟩ := q613
            cases z
        · cases e604
          cases f604
          have c604 := ndc q604
          refine zSiload (m := 1) (k := 2) vr_30_82 rfl rfl rfl (fun x630 e630 => ?_)
          cases e630
          refine zSp0 (pc' := 85) (st' := .int (62) :: _) vr_30_83 rfl rfl ?_
          refine zSb2 (f := fun x y => decide (¬ x = y)) (off := 41) (t := 126) vr_30_85 rfl rfl rfl (fun x632 y632 e632 f632 q632 => ?_) (fun x632 y632 e632 f632 q632 => ?_)
          · cases e632
            cases f632
            have c632 := of_decide_eq_true q632
            refine zSp0 (pc' := 127) (st' := .int (0) :: _) vr_30_126 rfl rfl ?_
            refine zLiret vr_30_127 rfl (fun x634 e634 => ?_)
            cases e634
            first
              | (refine RS.no f1 ?_
                 unfold pCon
                 rw [if_neg (fun z => by rcases z with z | z; exact c559 z; exact c601 z), if_neg (fun z => by rcases z with z | z; exact c604 z; exact c632 z)])
          · cases e632
            cases f632
            have c632 := ndc q632
            have hn : ¬ (sg T L p = 43 ∨ sg T L p = 45) := fun z => by
              rcases z with z | z
              · exact c559 z
              · exact c601 z
            have hm : sg T L p = 60 ∨ sg T L p = 62 := by
              first
                | exact Or.inl c604
                | exact Or.inr (Decidable.not_not.mp c632)
            have hlt : skp T L p + 1 ≤ L := sg_lt (T := T) (by
              rcases hm with z | z
              · rw [z]
                decide
              · rw [z]
                decide)
            refine zSaload (m := 1) (k := 0) vr_30_88 rfl rfl rfl ?_
            refine zSdup vr_30_89 rfl ?_
            refine zLget vr_30_90 rfl (fun p637 w637 e637 t637 g637 => ?_)
            cases e637
            first | (rw [d1.1.at] at g637; cases g637) | skip
            refine zSp0 (pc' := 94) (st' := .int (1) :: _) vr_30_93 rfl rfl ?_
            refine zS2 (f := fun x y => .int (x + y)) vr_30_94 rfl rfl (fun x639 y639 e639 f639 => ?_)
            cases e639
            cases f639
            refine zLput vr_30_95 rfl (fun p640 k640 e640 t640 g640 => ?_)
            cases e640
            have g0 := g640
            rw [ofNat_succ1] at g0
            obtain ⟨d2, f2⟩ := d1.pl ((PL.refl d1.1.at).put g0) hlt
            refine zSaload (m := 1) (k := 0) vr_30_98 rfl rfl rfl ?_
            refine zSp0 (pc' := 102) (st' := .int (999) :: _) vr_30_99 rfl rfl ?_
            refine zScall vr_30_102 rfl rfl rfl (fun m643 _ => C_tkN _ _ _ _ d2.1) (fun v643 h643 u643 q643 => ?_) (fun E643 h643 u643 q643 => ?_)
            · obtain ⟨pl643, z643⟩ := q643
              cases z643
              show zL zrx zi _ 30 105 [(2, _), (0, _), (1, _)] [_] _ _ _
              obtain ⟨d3, f3⟩ := d2.pl pl643 (tkN_b (T := T) d2.1.le).1
              have ff := (f1.trans f2).trans f3
              refine zSistore (m := 1) (k := 3) vr_30_105 rfl rfl (fun x644 e644 => ?_)
              cases e644
              show zL zrx zi _ 30 106 [(3, _), (2, _), (0, _), (1, _)] [] _ _ _
              refine zSiload (m := 1) (k := 3) vr_30_106 rfl rfl rfl (fun x645 e645 => ?_)
              cases e645
              refine zSp0 (pc' := 108) (st' := .int (-1) :: _) vr_30_107 rfl rfl ?_
              refine zSb2 (f := fun x y => decide (x = y)) (off := 16) (t := 124) vr_30_108 rfl rfl rfl (fun x647 y647 e647 f647 q647 => ?_) (fun x647 y647 e647 f647 q647 => ?_)
              · cases e647
                cases f647
                have c647 := of_decide_eq_true q647
                refine zSp0 (pc' := 125) (st' := .int (0) :: _) vr_30_124 rfl rfl ?_
                refine zLiret vr_30_125 rfl (fun x649 e649 => ?_)
                cases e649
                first
                  | (refine RS.no (ff.trans fr623) ?_
                     rcases r623 with ⟨-, z⟩ | ⟨z, -⟩
                     · unfold pCon
                       rw [if_neg hn, if_pos hm, if_neg c647, if_pos z]
                     · have y := c624
                       rw [z] at y
                       exact absurd y (by decide))
                  | (rcases r623 with ⟨z, -⟩ | ⟨-, z, y⟩
                     · exact absurd z c624
                     · refine RS.ok (ff.trans fr623) ?_ y
                       unfold pCon
                       rw [if_neg hn, if_pos hm, if_neg c647, if_neg z])
                  | (refine RS.no ff ?_
                     unfold pCon
                     rw [if_neg hn, if_pos hm, if_pos c647])
              · cases e647
                cases f647
                have c647 := ndc q647
                refine zSaload (m := 1) (k := 1) vr_30_111 rfl rfl rfl ?_
                refine zSiload (m := 1) (k := 2) vr_30_112 rfl rfl rfl (fun x651 e651 => ?_)
                cases e651
                refine zSiload (m := 1) (k := 3) vr_30_113 rfl rfl rfl (fun x652 e652 => ?_)
                cases e652
                refine zScall vr_30_114 rfl rfl rfl (fun m653 _ => C_addL _ _ _ _ _ d3) (fun v653 h653 u653 q653 => ?_) (fun E653 h653 u653 q653 => ?_)
                · obtain ⟨fr653, b653, z653, r653⟩ := q653
                  cases z653
                  show zL zrx zi _ 30 117 [(3, _), (2, _), (0, _), (1, _)] [_] _ _ _
                  refine zSb1 (f := fun x => decide (x = 0)) (off := 7) (t := 124) vr_30_117 rfl rfl rfl (fun x654 e654 q654 => ?_) (fun x654 e654 q654 => ?_)
                  · cases e654
                    have c654 := of_decide_eq_true q654
                    refine zSp0 (pc' := 125) (st' := .int (0) :: _) vr_30_124 rfl rfl ?_
                    refine zLiret vr_30_125 rfl (fun x656 e656 => ?_)
                    cases e656
                    first
                      | (refine RS.no (ff.trans fr653) ?_
                         rcases r653 with ⟨-, z⟩ | ⟨z, -⟩
                         · unfold pCon
                           rw [if_neg hn, if_pos hm, if_neg c647, if_pos z]
                         · have y := c654
                           rw [z] at y
                           exact absurd y (by decide))
                      | (rcases r653 with ⟨z, -⟩ | ⟨-, z, y⟩
                         · exact absurd z c654
                         · refine RS.ok (ff.trans fr653) ?_ y
                           unfold pCon
                           rw [if_neg hn, if_pos hm, if_neg c647, if_neg z])
                      | (refine RS.no ff ?_
                         unfold pCon
                         rw [if_neg hn, if_pos hm, if_pos c647])
                  · cases e654
                    have c654 := ndc q654
                    refine zSp0 (pc' := 121) (st' := .int (1) :: _) vr_30_120 rfl rfl ?_
                    refine zSgo (t := 125) vr_30_121 rfl rfl ?_
                    refine zLiret vr_30_125 rfl (fun x659 e659 => ?_)
                    cases e659
                    first
                      | (refine RS.no (ff.trans fr653) ?_
                         rcases r653 with ⟨-, z⟩ | ⟨z, -⟩
                         · unfold pCon
                           rw [if_neg hn, if_pos hm, if_neg c647, if_pos z]
                         · have y := c654
                           rw [z] at y
                           exact absurd y (by decide))
                      | (rcases r653 with ⟨z, -⟩ | ⟨-, z, y⟩
                         · exact absurd z c654
                         · refine RS.ok (ff.trans fr653) ?_ y
                           unfold pCon
                           rw [if_neg hn, if_pos hm, if_neg c647, if_neg z])
                      | (refine RS.no ff ?_
                         unfold pCon
                         rw [if_neg hn, if_pos hm, if_pos c647])
                · obtain ⟨-, _, z, -⟩ := q653
                  cases z
            · obtain ⟨-, z⟩ := q643
              cases z
      · cases e601
        cases f601
        have c601 := ndc q601
        have hs : sg T L p = 43 ∨ sg T L p = 45 := by
          first
            | exact Or.inl c559
            | exact Or.inr (Decidable.not_not.mp c601)
        have hlt : skp T L p + 1 ≤ L := sg_lt (T := T) (by
          rcases hs with z | z
          · rw [z]
            decide
          · rw [z]
            decide)
        refine zSaload (m := 1) (k := 0) vr_30_17 rfl rfl rfl ?_
        refine zSdup vr_30_18 rfl ?_
        refine zLget vr_30_19 rfl (fun p662 w662 e662 t662 g662 => ?_)
        cases e662
        first | (rw [d1.1.at] at g662; cases g662) | skip
        refine zSp0 (pc' := 23) (st' := .int (1) :: _) vr_30_22 rfl rfl ?_
        refine zS2 (f := fun x y => .int (x + y)) vr_30_23 rfl rfl (fun x664 y664 e664 f664 => ?_)
        cases e664
        cases f664
        refine zLput vr_30_24 rfl (fun p665 k665 e665 t665 g665 => ?_)
        cases e665
        have g0 := g665
        rw [ofNat_succ1] at g0
        obtain ⟨d2, f2⟩ := d1.pl ((PL.refl d1.1.at).put g0) hlt
        refine zSaload (m := 1) (k := 0) vr_30_27 rfl rfl rfl ?_
        refine zSp0 (pc' := 30) (st' := .int (6) :: _) vr_30_28 rfl rfl ?_
        refine zScall vr_30_30 rfl rfl rfl (fun m668 _ => C_tkD _ _ _ _ d2.1) (fun v668 h668 u668 q668 => ?_) (fun E668 h668 u668 q668 => ?_)
        · obtain ⟨pl668, z668⟩ := q668
          cases z668
          show zL zrx zi _ 30 33 [(2, _), (0, _), (1, _)] [_] _ _ _
          obtain ⟨d3, f3⟩ := d2.pl pl668 (tkD_b (T := T) d2.1.le).1
          have ff := (f1.trans f2).trans f3
          refine zSistore (m := 1) (k := 3) vr_30_33 rfl rfl (fun x669 e669 => ?_)
          cases e669
          show zL zrx zi _ 30 34 [(3, _), (2, _), (0, _), (1, _)] [] _ _ _
          refine zSiload (m := 1) (k := 3) vr_30_34 rfl rfl rfl (fun x670 e670 => ?_)
          cases e670
          refine zSp0 (pc' := 36) (st' := .int (-1) :: _) vr_30_35 rfl rfl ?_
          refine zSb2 (f := fun x y => decide (¬ x = y)) (off := 5) (t := 41) vr_30_36 rfl rfl rfl (fun x672 y672 e672 f672 q672 => ?_) (fun x672 y672 e672 f672 q672 => ?_)
          · cases e672
            cases f672
            have c672 := of_decide_eq_true q672
            refine zSiload (m := 1) (k := 2) vr_30_41 rfl rfl rfl (fun x673 e673 => ?_)
            cases e673
            refine zSp0 (pc' := 44) (st' := .int (43) :: _) vr_30_42 rfl rfl ?_
            refine zSb2 (f := fun x y => decide (¬ x = y)) (off := 18) (t := 62) vr_30_44 rfl rfl rfl (fun x675 y675 e675 f675 q675 => ?_) (fun x675 y675 e675 f675 q675 => ?_)
            · cases e675
              cases f675
              have c675 := of_decide_eq_true q675
              refine zSaload (m := 1) (k := 1) vr_30_62 rfl rfl rfl ?_
              refine zSdup vr_30_63 rfl ?_
              refine zLget vr_30_64 rfl (fun p678 w678 e678 t678 g678 => ?_)
              cases e678
              first | (rw [(d3.fld (k := 2) (by decide) rfl)] at g678; cases g678) | (rw [(d3.fld (k := 3) (by decide) rfl)] at g678; cases g678) | skip
              refine zSp0 (pc' := 68) (st' := .int (1) :: _) vr_30_67 rfl rfl ?_
              refine zSiload (m := 1) (k := 3) vr_30_68 rfl rfl rfl (fun x680 e680 => ?_)
              cases e680
              refine zS2 (f := fun x y => .int (x <<< (y &&& 31))) vr_30_69 rfl rfl (fun x681 y681 e681 f681 => ?_)
              cases e681
              cases f681
              refine zS2 (f := fun x y => .int (x ||| y)) vr_30_70 rfl rfl (fun x682 y682 e682 f682 => ?_)
              cases e682
              cases f682
              refine zLput vr_30_71 rfl (fun p683 k683 e683 t683 g683 => ?_)
              cases e683
              refine zSp0 (pc' := 75) (st' := .int (1) :: _) vr_30_74 rfl rfl ?_
              refine zLiret vr_30_75 rfl (fun x685 e685 => ?_)
              cases e685
              first
                | (refine RS.ok (ff.trans f4) ?_ d4
                   unfold pCon
                   rw [if_pos hs, if_neg c672, if_pos (Decidable.not_not.mp c675)])
                | (obtain ⟨d4, f4⟩ := d3.put (k := 3) (by decide) g683
                   refine RS.ok (ff.trans f4) ?_ d4
                   unfold pCon
                   rw [if_pos hs, if_neg c672, if_neg c675])
            · cases e675
              cases f675
              have c675 := ndc q675
              refine zSaload (m := 1) (k := 1) vr_30_47 rfl rfl rfl ?_
              refine zSdup vr_30_48 rfl ?_
              refine zLget vr_30_49 rfl (fun p688 w688 e688 t688 g688 => ?_)
              cases e688
              first | (rw [(d3.fld (k := 2) (by decide) rfl)] at g688; cases g688) | (rw [(d3.fld (k := 3) (by decide) rfl)] at g688; cases g688) | skip
              refine zSp0 (pc' := 53) (st' := .int (1) :: _) vr_30_52 rfl rfl ?_
              refine zSiload (m := 1) (k := 3) vr_30_53 rfl rfl rfl (fun x690 e690 => ?_)
              cases e690
              refine zS2 (f := fun x y => .int (x <<< (y &&& 31))) vr_30_54 rfl rfl (fun x691 y691 e691 f691 => ?_)
              cases e691
              cases f691
              refine zS2 (f := fun x y => .int (x ||| y)) vr_30_55 rfl rfl (fun x692 y692 e692 f692 => ?_)
              cases e692
              cases f692
              refine zLput vr_30_56 rfl (fun p693 k693 e693 t693 g693 => ?_)
              cases e693
              obtain ⟨d4, f4⟩ := d3.put (k := 2) (by decide) g693
              refine zSgo (t := 74) vr_30_59 rfl rfl ?_
              refine zSp0 (pc' := 75) (st' := .int (1) :: _) vr_30_74 rfl rfl ?_
              refine zLiret vr_30_75 rfl (fun x696 e696 => ?_)
              cases e696
              first
                | (refine RS.ok (ff.trans f4) ?_ d4
                   unfold pCon
                   rw [if_pos hs, if_neg c672, if_pos (Decidable.not_not.mp c675)])
                | (obtain ⟨d4, f4⟩ := d3.put (k := 3) (by decide) g683
                   refine RS.ok (ff.trans f4) ?_ d4
                   unfold pCon
                   rw [if_pos hs, if_neg c672, if_neg c675])
          · cases e672
            cases f672
            have c672 := ndc q672
            refine zSp0 (pc' := 40) (st' := .int (0) :: _) vr_30_39 rfl rfl ?_
            refine zLiret vr_30_40 rfl (fun x698 e698 => ?_)
            cases e698
            refine RS.no ff ?_
            unfold pCon
            rw [if_pos hs, if_pos (Decidable.not_not.mp c672)]
        · obtain ⟨-, z⟩ := q668
          cases z
  · obtain ⟨-, z⟩ := q555
    cases z
set_option maxRecDepth 20000 in
theorem C_tkCn_loop {T : Nat → Int32} {L C LS LN : Nat} : ∀ (n k p : Nat) (F : Nat → Int32) (h : List zC) (u : Nat), k ≤ 60 → PS T L C LS LN h p F → zL zrx zi n 29 2 [(2, .int (Int32.ofNat k)), (0, .ref 183), (1, .ref C)] [] h u (fun o h2 _ => RS T L C LS LN h h2 (coF T L (60 - k) p F) o)
  | 0, _, _, _, _, _, _, _ => trivial
  | n + 1, k, p, F, h, u, k4, d => by
    have kk := toNat_ofNat (m := k) (by omega)
    have z4 : (60 : Int32).toInt = 60 := rfl
    refine zLp vr_29_2 rfl rfl ?_
    refine zSp0 (pc' := 5) (st' := .int (60) :: _) vr_29_3 rfl rfl ?_
    refine zSb2 (f := fun x y => decide (y ≤ x)) (off := 30) (t := 35) vr_29_5 rfl rfl rfl (fun x700 y700 e700 f700 q700 => ?_) (fun x700 y700 e700 f700 q700 => ?_)
    · cases e700
      cases f700
      have c700 := of_decide_eq_true q700
      refine zSp0 (pc' := 36) (st' := .int (0) :: _) vr_29_35 rfl rfl ?_
      refine zLiret vr_29_36 rfl (fun x702 e702 => ?_)
      cases e702
      have e : k = 60 := by
        have y := c700
        rw [i32_le, kk.2, z4] at y
        omega
      subst e
      exact RS.no (FrC.refl _) rfl
    · cases e700
      cases f700
      have c700 := ndc q700
      have k3 : k < 60 := by
        have y := c700
        rw [i32_le, kk.2, z4] at y
        omega
      have e4 : 60 - k = (60 - (k + 1)) + 1 := by omega
      refine zSaload (m := 1) (k := 0) vr_29_8 rfl rfl rfl ?_
      refine zSp0 (pc' := 11) (st' := .int (61) :: _) vr_29_9 rfl rfl ?_
      refine zScall vr_29_11 rfl rfl rfl (fun m705 _ => C_tkS _ _ _ _ d.1) (fun v705 h705 u705 q705 => ?_) (fun E705 h705 u705 q705 => ?_)
      · obtain ⟨pl705, z705⟩ := q705
        cases z705
        show zL zrx zi _ 29 14 [(2, _), (0, _), (1, _)] [_] _ _ _
        obtain ⟨d1, f1⟩ := d.pl pl705 (tkS_b (T := T) (c := 61) d.1.le (by decide)).1
        refine zSb1 (f := fun x => decide (x = 0)) (off := 5) (t := 19) vr_29_14 rfl rfl rfl (fun x706 e706 q706 => ?_) (fun x706 e706 q706 => ?_)
        · cases e706
          have c706 := of_decide_eq_true q706
          refine zSaload (m := 1) (k := 0) vr_29_19 rfl rfl rfl ?_
          refine zSaload (m := 1) (k := 1) vr_29_20 rfl rfl rfl ?_
          refine zScall vr_29_21 rfl rfl rfl (fun m709 _ => C_tkCo _ _ _ d1) (fun v709 h709 u709 q709 => ?_) (fun E709 h709 u709 q709 => ?_)
          · obtain ⟨fr709, b709, z709, r709⟩ := q709
            cases z709
            show zL zrx zi _ 29 24 [(2, _), (0, _), (1, _)] [_] _ _ _
            refine zSb1 (f := fun x => decide (¬ x = 0)) (off := 5) (t := 29) vr_29_24 rfl rfl rfl (fun x710 e710 q710 => ?_) (fun x710 e710 q710 => ?_)
            · cases e710
              have c710 := of_decide_eq_true q710
              obtain ⟨y, e2, d2⟩ := r709.y c710
              refine zSiinc vr_29_29 rfl rfl (fun x711 e711 => ?_)
              cases e711
              show zL zrx zi _ 29 32 [(2, _), (0, _), (1, _)] [] _ _ _
              refine zSgo (t := 2) vr_29_32 rfl rfl ?_
              rw [ofNat_succ]
              refine zL_K _ _ _ _ _ _ _ _ _ (zL_pm _ _ _ [(2, _), (0, _), (1, _)] _ _ _ _ _ ⟨(List.forall_mem_cons.mpr ⟨List.mem_cons_self, (List.forall_mem_cons.mpr ⟨(List.mem_cons_of_mem _ List.mem_cons_self), (List.forall_mem_cons.mpr ⟨(List.mem_cons_of_mem _ (List.mem_cons_of_mem _ List.mem_cons_self)), (fun _ h => absurd h List.not_mem_nil)⟩)⟩)⟩), show ([2, 0, 1] : List Nat).Nodup by decide⟩ (C_tkCn_loop n (k + 1) _ _ _ _ (by omega) d2)) (fun o h2 u2 q => ?_)
              rw [e4, coF_y c706 e2]
              exact q.pre (f1.trans fr709)
            · cases e710
              have c710 := ndc q710
              refine zSp0 (pc' := 28) (st' := .int (0) :: _) vr_29_27 rfl rfl ?_
              refine zLiret vr_29_28 rfl (fun x714 e714 => ?_)
              cases e714
              refine RS.no (f1.trans fr709) ?_
              rw [e4, coF_n c706 (r709.n (Decidable.not_not.mp c710))]
          · obtain ⟨-, _, z, -⟩ := q709
            cases z
        · cases e706
          have c706 := ndc q706
          refine zSp0 (pc' := 18) (st' := .int (1) :: _) vr_29_17 rfl rfl ?_
          refine zLiret vr_29_18 rfl (fun x716 e716 => ?_)
          cases e716
          refine RS.ok f1 ?_ d1
          rw [e4, coF_e c706]
      · obtain ⟨-, z⟩ := q705
        cases z
theorem C_tkCn (n : Nat)  (h : List zC) (u : Nat) {T : Nat → Int32} {L C LS LN p : Nat} {F : Nat → Int32} (d : PS T L C LS LN h p F) : zL zrx zi n 29 0 [(0, .ref 183), (1, .ref C)] [] h u (fun o h2 _ => RS T L C LS LN h h2 (coF T L 60 p F) o) := by
  refine zSp0 (pc' := 1) (st' := .int (0) :: _) vr_29_0 rfl rfl ?_
  refine zSistore (m := 1) (k := 2) vr_29_1 rfl rfl (fun x718 e718 => ?_)
  cases e718
  show zL zrx zi _ 29 2 [(2, _), (0, _), (1, _)] [] _ _ _
  exact zL_pm _ _ _ [(2, _), (0, _), (1, _)] _ _ _ _ _ ⟨(List.forall_mem_cons.mpr ⟨List.mem_cons_self, (List.forall_mem_cons.mpr ⟨(List.mem_cons_of_mem _ List.mem_cons_self), (List.forall_mem_cons.mpr ⟨(List.mem_cons_of_mem _ (List.mem_cons_of_mem _ List.mem_cons_self)), (fun _ h => absurd h List.not_mem_nil)⟩)⟩)⟩), show ([2, 0, 1] : List Nat).Nodup by decide⟩ (C_tkCn_loop _ 0 _ _ _ _ (by omega) d)
theorem C_tkOu (n : Nat) (nb : Int32) (h : List zC) (u : Nat) {T : Nat → Int32} {L C LS LN p : Nat} {F : Nat → Int32} (d : PS T L C LS LN h p F) : zL zrx zi n 31 0 [(0, .ref 183), (1, .ref C), (2, .int nb)] [] h u (fun o h2 _ => RS T L C LS LN h h2 (pOut T L nb p F) o) := by
  refine zSaload (m := 1) (k := 0) vr_31_0 rfl rfl rfl ?_
  refine zSp0 (pc' := 3) (st' := .int (37) :: _) vr_31_1 rfl rfl ?_
  refine zScall vr_31_3 rfl rfl rfl (fun m721 _ => C_tkS _ _ _ _ d.1) (fun v721 h721 u721 q721 => ?_) (fun E721 h721 u721 q721 => ?_)
  · obtain ⟨pl721, z721⟩ := q721
    cases z721
    show zL zrx zi _ 31 6 [(0, _), (1, _), (2, _)] [_] _ _ _
    obtain ⟨d1, f1⟩ := d.pl pl721 (tkS_b (T := T) (c := 37) d.1.le (by decide)).1
    refine zSb1 (f := fun x => decide (x = 0)) (off := 10) (t := 16) vr_31_6 rfl rfl rfl (fun x722 e722 q722 => ?_) (fun x722 e722 q722 => ?_)
    · cases e722
      have c722 := of_decide_eq_true q722
      refine zSaload (m := 1) (k := 0) vr_31_16 rfl rfl rfl ?_
      refine zSp0 (pc' := 19) (st' := .int (64) :: _) vr_31_17 rfl rfl ?_
      refine zScall vr_31_19 rfl rfl rfl (fun m725 _ => C_tkS _ _ _ _ d1.1) (fun v725 h725 u725 q725 => ?_) (fun E725 h725 u725 q725 => ?_)
      · obtain ⟨pl725, z725⟩ := q725
        cases z725
        show zL zrx zi _ 31 22 [(0, _), (1, _), (2, _)] [_] _ _ _
        obtain ⟨d2, f2⟩ := d1.pl pl725 (tkS_b (T := T) (c := 64) d1.1.le (by decide)).1
        refine zSb1 (f := fun x => decide (x = 0)) (off := 30) (t := 52) vr_31_22 rfl rfl rfl (fun x726 e726 q726 => ?_) (fun x726 e726 q726 => ?_)
        · cases e726
          have c726 := of_decide_eq_true q726
          refine zSaload (m := 1) (k := 1) vr_31_52 rfl rfl rfl ?_
          refine zSaload (m := 1) (k := 0) vr_31_53 rfl rfl rfl ?_
          refine zSp0 (pc' := 56) (st' := .int (100) :: _) vr_31_54 rfl rfl ?_
          refine zScall vr_31_56 rfl rfl rfl (fun m730 _ => C_tkN _ _ _ _ d2.1) (fun v730 h730 u730 q730 => ?_) (fun E730 h730 u730 q730 => ?_)
          · obtain ⟨pl730, z730⟩ := q730
            cases z730
            show zL zrx zi _ 31 59 [(0, _), (1, _), (2, _)] [_, _] _ _ _
            obtain ⟨d3, f3⟩ := d2.pl pl730 (tkN_b (T := T) d2.1.le).1
            have ff := (f1.trans f2).trans f3
            refine zLput vr_31_59 rfl (fun p731 k731 e731 t731 g731 => ?_)
            cases e731
            obtain ⟨d4, f4⟩ := d3.put (k := 6) (by decide) g731
            refine zSaload (m := 1) (k := 1) vr_31_62 rfl rfl rfl ?_
            refine zLget vr_31_63 rfl (fun p733 w733 e733 t733 g733 => ?_)
            cases e733
            first | (rw [(d4.fld (k := 6) (by decide) upF_eq)] at g733; cases g733) | skip
            refine zSp0 (pc' := 67) (st' := .int (-1) :: _) vr_31_66 rfl rfl ?_
            refine zSb2 (f := fun x y => decide (x = y)) (off := 7) (t := 74) vr_31_67 rfl rfl rfl (fun x735 y735 e735 f735 q735 => ?_) (fun x735 y735 e735 f735 q735 => ?_)
            · cases e735
              cases f735
              have c735 := of_decide_eq_true q735
              refine zSp0 (pc' := 75) (st' := .int (0) :: _) vr_31_74 rfl rfl ?_
              refine zLiret vr_31_75 rfl (fun x737 e737 => ?_)
              cases e737
              first
                | (refine RS.no (ff.trans f4) ?_
                   unfold pOut
                   rw [if_pos c722, if_pos c726, if_pos c735])
                | (refine RS.ok (ff.trans f4) ?_ d4
                   unfold pOut
                   rw [if_pos c722, if_pos c726, if_neg c735])
            · cases e735
              cases f735
              have c735 := ndc q735
              refine zSp0 (pc' := 71) (st' := .int (1) :: _) vr_31_70 rfl rfl ?_
              refine zSgo (t := 75) vr_31_71 rfl rfl ?_
              refine zLiret vr_31_75 rfl (fun x740 e740 => ?_)
              cases e740
              first
                | (refine RS.no (ff.trans f4) ?_
                   unfold pOut
                   rw [if_pos c722, if_pos c726, if_pos c735])
                | (refine RS.ok (ff.trans f4) ?_ d4
                   unfold pOut
                   rw [if_pos c722, if_pos c726, if_neg c735])
          · obtain ⟨-, z⟩ := q730
            cases z
        · cases e726
          have c726 := ndc q726
          refine zSaload (m := 1) (k := 0) vr_31_25 rfl rfl rfl ?_
          refine zSiload (m := 1) (k := 2) vr_31_26 rfl rfl rfl (fun x742 e742 => ?_)
          cases e742
          refine zSp0 (pc' := 28) (st' := .int (1) :: _) vr_31_27 rfl rfl ?_
          refine zS2 (f := fun x y => .int (x - y)) vr_31_28 rfl rfl (fun x744 y744 e744 f744 => ?_)
          cases e744
          cases f744
          refine zScall vr_31_29 rfl rfl rfl (fun m745 _ => C_tkN _ _ _ _ d2.1) (fun v745 h745 u745 q745 => ?_) (fun E745 h745 u745 q745 => ?_)
          · obtain ⟨pl745, z745⟩ := q745
            cases z745
            show zL zrx zi _ 31 32 [(0, _), (1, _), (2, _)] [_] _ _ _
            obtain ⟨d3, f3⟩ := d2.pl pl745 (tkN_b (T := T) d2.1.le).1
            have ff := (f1.trans f2).trans f3
            refine zSistore (m := 1) (k := 3) vr_31_32 rfl rfl (fun x746 e746 => ?_)
            cases e746
            show zL zrx zi _ 31 33 [(3, _), (0, _), (1, _), (2, _)] [] _ _ _
            refine zSaload (m := 1) (k := 1) vr_31_33 rfl rfl rfl ?_
            refine zSp0 (pc' := 36) (st' := .int (-2) :: _) vr_31_34 rfl rfl ?_
            refine zSiload (m := 1) (k := 3) vr_31_36 rfl rfl rfl (fun x749 e749 => ?_)
            cases e749
            refine zS2 (f := fun x y => .int (x - y)) vr_31_37 rfl rfl (fun x750 y750 e750 f750 => ?_)
            cases e750
            cases f750
            refine zLput vr_31_38 rfl (fun p751 k751 e751 t751 g751 => ?_)
            cases e751
            obtain ⟨d4, f4⟩ := d3.put (k := 6) (by decide) g751
            refine zSiload (m := 1) (k := 3) vr_31_41 rfl rfl rfl (fun x752 e752 => ?_)
            cases e752
            refine zSp0 (pc' := 43) (st' := .int (-1) :: _) vr_31_42 rfl rfl ?_
            refine zSb2 (f := fun x y => decide (x = y)) (off := 7) (t := 50) vr_31_43 rfl rfl rfl (fun x754 y754 e754 f754 q754 => ?_) (fun x754 y754 e754 f754 q754 => ?_)
            · cases e754
              cases f754
              have c754 := of_decide_eq_true q754
              refine zSp0 (pc' := 51) (st' := .int (0) :: _) vr_31_50 rfl rfl ?_
              refine zLiret vr_31_51 rfl (fun x756 e756 => ?_)
              cases e756
              first
                | (refine RS.no (ff.trans f4) ?_
                   unfold pOut
                   rw [if_pos c722, if_neg c726, if_pos c754])
                | (refine RS.ok (ff.trans f4) ?_ d4
                   unfold pOut
                   rw [if_pos c722, if_neg c726, if_neg c754])
            · cases e754
              cases f754
              have c754 := ndc q754
              refine zSp0 (pc' := 47) (st' := .int (1) :: _) vr_31_46 rfl rfl ?_
              refine zSgo (t := 51) vr_31_47 rfl rfl ?_
              refine zLiret vr_31_51 rfl (fun x759 e759 => ?_)
              cases e759
              first
                | (refine RS.no (ff.trans f4) ?_
                   unfold pOut
                   rw [if_pos c722, if_neg c726, if_pos c754])
                | (refine RS.ok (ff.trans f4) ?_ d4
                   unfold pOut
                   rw [if_pos c722, if_neg c726, if_neg c754])
          · obtain ⟨-, z⟩ := q745
            cases z
      · obtain ⟨-, z⟩ := q725
        cases z
    · cases e722
      have c722 := ndc q722
      refine zSaload (m := 1) (k := 1) vr_31_9 rfl rfl rfl ?_
      refine zSp0 (pc' := 11) (st' := .int (-1) :: _) vr_31_10 rfl rfl ?_
      refine zLput vr_31_11 rfl (fun p762 k762 e762 t762 g762 => ?_)
      cases e762
      obtain ⟨d2, f2⟩ := d1.put (k := 6) (by decide) g762
      refine zSp0 (pc' := 15) (st' := .int (1) :: _) vr_31_14 rfl rfl ?_
      refine zLiret vr_31_15 rfl (fun x764 e764 => ?_)
      cases e764
      refine RS.ok (f1.trans f2) ?_ d2
      unfold pOut
      rw [if_neg c722]
  · obtain ⟨-, z⟩ := q721
    cases z
theorem C_tkEx (n : Nat) (nb : Int32) (h : List zC) (u : Nat) {T : Nat → Int32} {L C LS LN p : Nat} {F : Nat → Int32} (d : PS T L C LS LN h p F) : zL zrx zi n 32 0 [(0, .ref 183), (1, .ref C), (2, .int nb)] [] h u (fun o h2 _ => RS T L C LS LN h h2 (pExc T L nb p F) o) := by
  refine zSaload (m := 1) (k := 0) vr_32_0 rfl rfl rfl ?_
  refine zSp0 (pc' := 3) (st' := .int (120) :: _) vr_32_1 rfl rfl ?_
  refine zScall vr_32_3 rfl rfl rfl (fun m767 _ => C_tkS _ _ _ _ d.1) (fun v767 h767 u767 q767 => ?_) (fun E767 h767 u767 q767 => ?_)
  · obtain ⟨pl767, z767⟩ := q767
    cases z767
    show zL zrx zi _ 32 6 [(0, _), (1, _), (2, _)] [_] _ _ _
    obtain ⟨d1, f1⟩ := d.pl pl767 (tkS_b (T := T) (c := 120) d.1.le (by decide)).1
    refine zSb1 (f := fun x => decide (¬ x = 0)) (off := 5) (t := 11) vr_32_6 rfl rfl rfl (fun x768 e768 q768 => ?_) (fun x768 e768 q768 => ?_)
    · cases e768
      have c768 := of_decide_eq_true q768
      refine zSaload (m := 1) (k := 1) vr_32_11 rfl rfl rfl ?_
      refine zSaload (m := 1) (k := 0) vr_32_12 rfl rfl rfl ?_
      refine zSiload (m := 1) (k := 2) vr_32_13 rfl rfl rfl (fun x771 e771 => ?_)
      cases e771
      refine zSp0 (pc' := 15) (st' := .int (1) :: _) vr_32_14 rfl rfl ?_
      refine zS2 (f := fun x y => .int (x - y)) vr_32_15 rfl rfl (fun x773 y773 e773 f773 => ?_)
      cases e773
      cases f773
      refine zScall vr_32_16 rfl rfl rfl (fun m774 _ => C_tkN _ _ _ _ d1.1) (fun v774 h774 u774 q774 => ?_) (fun E774 h774 u774 q774 => ?_)
      · obtain ⟨pl774, z774⟩ := q774
        cases z774
        show zL zrx zi _ 32 19 [(0, _), (1, _), (2, _)] [_, _] _ _ _
        obtain ⟨d2, f2⟩ := d1.pl pl774 (tkN_b (T := T) d1.1.le).1
        refine zLput vr_32_19 rfl (fun p775 k775 e775 t775 g775 => ?_)
        cases e775
        obtain ⟨d3, f3⟩ := d2.put (k := 7) (by decide) g775
        refine zSaload (m := 1) (k := 1) vr_32_22 rfl rfl rfl ?_
        refine zLget vr_32_23 rfl (fun p777 w777 e777 t777 g777 => ?_)
        cases e777
        first | (rw [(d3.fld (k := 7) (by decide) upF_eq)] at g777; cases g777) | skip
        refine zSp0 (pc' := 27) (st' := .int (-1) :: _) vr_32_26 rfl rfl ?_
        refine zSb2 (f := fun x y => decide (x = y)) (off := 7) (t := 34) vr_32_27 rfl rfl rfl (fun x779 y779 e779 f779 q779 => ?_) (fun x779 y779 e779 f779 q779 => ?_)
        · cases e779
          cases f779
          have c779 := of_decide_eq_true q779
          refine zSp0 (pc' := 35) (st' := .int (0) :: _) vr_32_34 rfl rfl ?_
          refine zLiret vr_32_35 rfl (fun x781 e781 => ?_)
          cases e781
          first
            | (refine RS.no ((f1.trans f2).trans f3) ?_
               unfold pExc
               rw [if_neg c768, if_pos c779])
            | (refine RS.ok ((f1.trans f2).trans f3) ?_ d3
               unfold pExc
               rw [if_neg c768, if_neg c779])
        · cases e779
          cases f779
          have c779 := ndc q779
          refine zSp0 (pc' := 31) (st' := .int (1) :: _) vr_32_30 rfl rfl ?_
          refine zSgo (t := 35) vr_32_31 rfl rfl ?_
          refine zLiret vr_32_35 rfl (fun x784 e784 => ?_)
          cases e784
          first
            | (refine RS.no ((f1.trans f2).trans f3) ?_
               unfold pExc
               rw [if_neg c768, if_pos c779])
            | (refine RS.ok ((f1.trans f2).trans f3) ?_ d3
               unfold pExc
               rw [if_neg c768, if_neg c779])
      · obtain ⟨-, z⟩ := q774
        cases z
    · cases e768
      have c768 := ndc q768
      refine zSp0 (pc' := 10) (st' := .int (1) :: _) vr_32_9 rfl rfl ?_
      refine zLiret vr_32_10 rfl (fun x786 e786 => ?_)
      cases e786
      refine RS.ok f1 ?_ d1
      unfold pExc
      rw [if_pos (Decidable.not_not.mp c768)]
  · obtain ⟨-, z⟩ := q767
    cases z
theorem C_read (n : Nat) (nb : Int32) (h : List zC) (u : Nat) {T : Nat → Int32} {L C LS LN : Nat} {F : Nat → Int32} (dz : DZ T L C LS LN h F) : zL zrx zi n 26 0 [(0, .ref 183), (1, .ref C), (2, .int nb)] [] h u (fun o h2 _ => RS T L C LS LN h h2 (pRead T L nb F) o) := by
  refine zSaload (m := 1) (k := 0) vr_26_0 rfl rfl rfl ?_
  refine zSp0 (pc' := 2) (st' := .int (0) :: _) vr_26_1 rfl rfl ?_
  refine zLput vr_26_2 rfl (fun p789 k789 e789 t789 g789 => ?_)
  cases e789
  have d0 : PS T L C LS LN k789 0 F ∧ FrC C LS LN h k789 := dz.start g789
  obtain ⟨d0, f0⟩ := d0
  refine zSaload (m := 1) (k := 0) vr_26_5 rfl rfl rfl ?_
  refine zSaload (m := 1) (k := 1) vr_26_6 rfl rfl rfl ?_
  refine zScall vr_26_7 rfl rfl rfl (fun m792 _ => C_tkMat _ _ _ d0) (fun v792 h792 u792 q792 => ?_) (fun E792 h792 u792 q792 => ?_)
  · obtain ⟨fr792, b792, z792, r792⟩ := q792
    cases z792
    show zL zrx zi _ 26 10 [(0, _), (1, _), (2, _)] [_] _ _ _
    refine zSb1 (f := fun x => decide (x = 0)) (off := 49) (t := 59) vr_26_10 rfl rfl rfl (fun x793 e793 q793 => ?_) (fun x793 e793 q793 => ?_)
    · cases e793
      have c793 := of_decide_eq_true q793
      refine zSp0 (pc' := 60) (st' := .int (0) :: _) vr_26_59 rfl rfl ?_
      refine zLiret vr_26_60 rfl (fun x795 e795 => ?_)
      cases e795
      first
        | (refine RS.ok (f5.trans f6) ?_ d6
           unfold pRead
           simp only [e1, e2, e3, e4, e5, Option.bind_some]
           rw [if_pos (Decidable.not_not.mp c727)])
        | (refine RS.no (f5.trans f6) ?_
           unfold pRead
           simp only [e1, e2, e3, e4, e5, Option.bind_some]
           rw [if_neg c727])
        | (refine RS.no (f0.trans fr792) ?_
           unfold pRead
           simp only [r792.n c793, Option.bind_none, Option.bind_some])
        | (refine RS.no (f1.trans fr773) ?_
           unfold pRead
           simp only [e1, r773.n c716, Option.bind_none, Option.bind_some])
        | (refine RS.no (f2.trans fr777) ?_
           unfold pRead
           simp only [e1, e2, r777.n c778, Option.bind_none, Option.bind_some])
        | (refine RS.no (f3.trans fr746) ?_
           unfold pRead
           simp only [e1, e2, e3, r746.n c784, Option.bind_none, Option.bind_some])
        | (refine RS.no (f4.trans fr752) ?_
           unfold pRead
           simp only [e1, e2, e3, e4, r752.n c675, Option.bind_none, Option.bind_some])
    · cases e793
      have c793 := ndc q793
      obtain ⟨y1, e1, d1⟩ := r792.y c793
      have f1 := f0.trans fr792
      refine zSaload (m := 1) (k := 0) vr_26_13 rfl rfl rfl ?_
      refine zSaload (m := 1) (k := 1) vr_26_14 rfl rfl rfl ?_
      refine zScall vr_26_15 rfl rfl rfl (fun m798 _ => C_tkCls _ _ _ d1) (fun v798 h798 u798 q798 => ?_) (fun E798 h798 u798 q798 => ?_)
      · obtain ⟨fr798, b798, z798, r798⟩ := q798
        cases z798
        show zL zrx zi _ 26 18 [(0, _), (1, _), (2, _)] [_] _ _ _
        refine zSb1 (f := fun x => decide (x = 0)) (off := 41) (t := 59) vr_26_18 rfl rfl rfl (fun x799 e799 q799 => ?_) (fun x799 e799 q799 => ?_)
        · cases e799
          have c799 := of_decide_eq_true q799
          refine zSp0 (pc' := 60) (st' := .int (0) :: _) vr_26_59 rfl rfl ?_
          refine zLiret vr_26_60 rfl (fun x801 e801 => ?_)
          cases e801
          first
            | (refine RS.ok (f5.trans f6) ?_ d6
               unfold pRead
               simp only [e1, e2, e3, e4, e5, Option.bind_some]
               rw [if_pos (Decidable.not_not.mp c727)])
            | (refine RS.no (f5.trans f6) ?_
               unfold pRead
               simp only [e1, e2, e3, e4, e5, Option.bind_some]
               rw [if_neg c727])
            | (refine RS.no (f0.trans fr792) ?_
               unfold pRead
               simp only [r792.n c793, Option.bind_none, Option.bind_some])
            | (refine RS.no (f1.trans fr798) ?_
               unfold pRead
               simp only [e1, r798.n c799, Option.bind_none, Option.bind_some])
            | (refine RS.no (f2.trans fr777) ?_
               unfold pRead
               simp only [e1, e2, r777.n c778, Option.bind_none, Option.bind_some])
            | (refine RS.no (f3.trans fr746) ?_
               unfold pRead
               simp only [e1, e2, e3, r746.n c784, Option.bind_none, Option.bind_some])
            | (refine RS.no (f4.trans fr752) ?_
               unfold pRead
               simp only [e1, e2, e3, e4, r752.n c675, Option.bind_none, Option.bind_some])
        · cases e799
          have c799 := ndc q799
          obtain ⟨y2, e2, d2⟩ := r798.y c799
          have f2 := f1.trans fr798
          refine zSaload (m := 1) (k := 0) vr_26_21 rfl rfl rfl ?_
          refine zSaload (m := 1) (k := 1) vr_26_22 rfl rfl rfl ?_
          refine zScall vr_26_23 rfl rfl rfl (fun m804 _ => C_tkCn _ _ _ d2) (fun v804 h804 u804 q804 => ?_) (fun E804 h804 u804 q804 => ?_)
          · obtain ⟨fr804, b804, z804, r804⟩ := q804
            cases z804
            show zL zrx zi _ 26 26 [(0, _), (1, _), (2, _)] [_] _ _ _
            refine zSb1 (f := fun x => decide (x = 0)) (off := 33) (t := 59) vr_26_26 rfl rfl rfl (fun x805 e805 q805 => ?_) (fun x805 e805 q805 => ?_)
            · cases e805
              have c805 := of_decide_eq_true q805
              refine zSp0 (pc' := 60) (st' := .int (0) :: _) vr_26_59 rfl rfl ?_
              refine zLiret vr_26_60 rfl (fun x807 e807 => ?_)
              cases e807
              first
                | (refine RS.ok (f5.trans f6) ?_ d6
                   unfold pRead
                   simp only [e1, e2, e3, e4, e5, Option.bind_some]
                   rw [if_pos (Decidable.not_not.mp c727)])
                | (refine RS.no (f5.trans f6) ?_
                   unfold pRead
                   simp only [e1, e2, e3, e4, e5, Option.bind_some]
                   rw [if_neg c727])
                | (refine RS.no (f0.trans fr792) ?_
                   unfold pRead
                   simp only [r792.n c793, Option.bind_none, Option.bind_some])
                | (refine RS.no (f1.trans fr798) ?_
                   unfold pRead
                   simp only [e1, r798.n c799, Option.bind_none, Option.bind_some])
                | (refine RS.no (f2.trans fr804) ?_
                   unfold pRead
                   simp only [e1, e2, r804.n c805, Option.bind_none, Option.bind_some])
                | (refine RS.no (f3.trans fr746) ?_
                   unfold pRead
                   simp only [e1, e2, e3, r746.n c784, Option.bind_none, Option.bind_some])
                | (refine RS.no (f4.trans fr752) ?_
                   unfold pRead
                   simp only [e1, e2, e3, e4, r752.n c675, Option.bind_none, Option.bind_some])
            · cases e805
              have c805 := ndc q805
              obtain ⟨y3, e3, d3⟩ := r804.y c805
              have f3 := f2.trans fr804
              refine zSaload (m := 1) (k := 0) vr_26_29 rfl rfl rfl ?_
              refine zSaload (m := 1) (k := 1) vr_26_30 rfl rfl rfl ?_
              refine zSiload (m := 1) (k := 2) vr_26_31 rfl rfl rfl (fun x810 e810 => ?_)
              cases e810
              refine zScall vr_26_32 rfl rfl rfl (fun m811 _ => C_tkOu _ _ _ _ d3) (fun v811 h811 u811 q811 => ?_) (fun E811 h811 u811 q811 => ?_)
              · obtain ⟨fr811, b811, z811, r811⟩ := q811
                cases z811
                show zL zrx zi _ 26 35 [(0, _), (1, _), (2, _)] [_] _ _ _
                refine zSb1 (f := fun x => decide (x = 0)) (off := 24) (t := 59) vr_26_35 rfl rfl rfl (fun x812 e812 q812 => ?_) (fun x812 e812 q812 => ?_)
                · cases e812
                  have c812 := of_decide_eq_true q812
                  refine zSp0 (pc' := 60) (st' := .int (0) :: _) vr_26_59 rfl rfl ?_
                  refine zLiret vr_26_60 rfl (fun x814 e814 => ?_)
                  cases e814
                  first
                    | (refine RS.ok (f5.trans f6) ?_ d6
                       unfold pRead
                       simp only [e1, e2, e3, e4, e5, Option.bind_some]
                       rw [if_pos (Decidable.not_not.mp c727)])
                    | (refine RS.no (f5.trans f6) ?_
                       unfold pRead
                       simp only [e1, e2, e3, e4, e5, Option.bind_some]
                       rw [if_neg c727])
                    | (refine RS.no (f0.trans fr792) ?_
                       unfold pRead
                       simp only [r792.n c793, Option.bind_none, Option.bind_some])
                    | (refine RS.no (f1.trans fr798) ?_
                       unfold pRead
                       simp only [e1, r798.n c799, Option.bind_none, Option.bind_some])
                    | (refine RS.no (f2.trans fr804) ?_
                       unfold pRead
                       simp only [e1, e2, r804.n c805, Option.bind_none, Option.bind_some])
                    | (refine RS.no (f3.trans fr811) ?_
                       unfold pRead
                       simp only [e1, e2, e3, r811.n c812, Option.bind_none, Option.bind_some])
                    | (refine RS.no (f4.trans fr752) ?_
                       unfold pRead
                       simp only [e1, e2, e3, e4, r752.n c675, Option.bind_none, Option.bind_some])
                · cases e812
                  have c812 := ndc q812
                  obtain ⟨y4, e4, d4⟩ := r811.y c812
                  have f4 := f3.trans fr811
                  refine zSaload (m := 1) (k := 0) vr_26_38 rfl rfl rfl ?_
                  refine zSaload (m := 1) (k := 1) vr_26_39 rfl rfl rfl ?_
                  refine zSiload (m := 1) (k := 2) vr_26_40 rfl rfl rfl (fun x817 e817 => ?_)
                  cases e817
                  refine zScall vr_26_41 rfl rfl rfl (fun m818 _ => C_tkEx _ _ _ _ d4) (fun v818 h818 u818 q818 => ?_) (fun E818 h818 u818 q818 => ?_)
                  · obtain ⟨fr818, b818, z818, r818⟩ := q818
                    cases z818
                    show zL zrx zi _ 26 44 [(0, _), (1, _), (2, _)] [_] _ _ _
                    refine zSb1 (f := fun x => decide (x = 0)) (off := 15) (t := 59) vr_26_44 rfl rfl rfl (fun x819 e819 q819 => ?_) (fun x819 e819 q819 => ?_)
                    · cases e819
                      have c819 := of_decide_eq_true q819
                      refine zSp0 (pc' := 60) (st' := .int (0) :: _) vr_26_59 rfl rfl ?_
                      refine zLiret vr_26_60 rfl (fun x821 e821 => ?_)
                      cases e821
                      first
                        | (refine RS.ok (f5.trans f6) ?_ d6
                           unfold pRead
                           simp only [e1, e2, e3, e4, e5, Option.bind_some]
                           rw [if_pos (Decidable.not_not.mp c727)])
                        | (refine RS.no (f5.trans f6) ?_
                           unfold pRead
                           simp only [e1, e2, e3, e4, e5, Option.bind_some]
                           rw [if_neg c727])
                        | (refine RS.no (f0.trans fr792) ?_
                           unfold pRead
                           simp only [r792.n c793, Option.bind_none, Option.bind_some])
                        | (refine RS.no (f1.trans fr798) ?_
                           unfold pRead
                           simp only [e1, r798.n c799, Option.bind_none, Option.bind_some])
                        | (refine RS.no (f2.trans fr804) ?_
                           unfold pRead
                           simp only [e1, e2, r804.n c805, Option.bind_none, Option.bind_some])
                        | (refine RS.no (f3.trans fr811) ?_
                           unfold pRead
                           simp only [e1, e2, e3, r811.n c812, Option.bind_none, Option.bind_some])
                        | (refine RS.no (f4.trans fr818) ?_
                           unfold pRead
                           simp only [e1, e2, e3, e4, r818.n c819, Option.bind_none, Option.bind_some])
                    · cases e819
                      have c819 := ndc q819
                      obtain ⟨y5, e5, d5⟩ := r818.y c819
                      have f5 := f4.trans fr818
                      refine zSaload (m := 1) (k := 0) vr_26_47 rfl rfl rfl ?_
                      refine zScall vr_26_48 rfl rfl rfl (fun m823 _ => C_ns _ _ _ _ d5.1) (fun v823 h823 u823 q823 => ?_) (fun E823 h823 u823 q823 => ?_)
                      · obtain ⟨pl823, z823⟩ := q823
                        cases z823
                        show zL zrx zi _ 26 51 [(0, _), (1, _), (2, _)] [_] _ _ _
                        obtain ⟨d6, f6⟩ := d5.pl pl823 (skp_b (T := T) _ _ rfl d5.1.le).2.1
                        refine zSp0 (pc' := 52) (st' := .int (-1) :: _) vr_26_51 rfl rfl ?_
                        refine zSb2 (f := fun x y => decide (¬ x = y)) (off := 7) (t := 59) vr_26_52 rfl rfl rfl (fun x825 y825 e825 f825 q825 => ?_) (fun x825 y825 e825 f825 q825 => ?_)
                        · cases e825
                          cases f825
                          have c825 := of_decide_eq_true q825
                          refine zSp0 (pc' := 60) (st' := .int (0) :: _) vr_26_59 rfl rfl ?_
                          refine zLiret vr_26_60 rfl (fun x827 e827 => ?_)
                          cases e827
                          first
                            | (refine RS.ok (f5.trans f6) ?_ d6
                               unfold pRead
                               simp only [e1, e2, e3, e4, e5, Option.bind_some]
                               rw [if_pos (Decidable.not_not.mp c825)])
                            | (refine RS.no (f5.trans f6) ?_
                               unfold pRead
                               simp only [e1, e2, e3, e4, e5, Option.bind_some]
                               rw [if_neg c825])
                            | (refine RS.no (f0.trans fr792) ?_
                               unfold pRead
                               simp only [r792.n c793, Option.bind_none, Option.bind_some])
                            | (refine RS.no (f1.trans fr798) ?_
                               unfold pRead
                               simp only [e1, r798.n c799, Option.bind_none, Option.bind_some])
                            | (refine RS.no (f2.trans fr804) ?_
                               unfold pRead
                               simp only [e1, e2, r804.n c805, Option.bind_none, Option.bind_some])
                            | (refine RS.no (f3.trans fr811) ?_
                               unfold pRead
                               simp only [e1, e2, e3, r811.n c812, Option.bind_none, Option.bind_some])
                            | (refine RS.no (f4.trans fr818) ?_
                               unfold pRead
                               simp only [e1, e2, e3, e4, r818.n c819, Option.bind_none, Option.bind_some])
                        · cases e825
                          cases f825
                          have c825 := ndc q825
                          refine zSp0 (pc' := 56) (st' := .int (1) :: _) vr_26_55 rfl rfl ?_
                          refine zSgo (t := 60) vr_26_56 rfl rfl ?_
                          refine zLiret vr_26_60 rfl (fun x830 e830 => ?_)
                          cases e830
                          first
                            | (refine RS.ok (f5.trans f6) ?_ d6
                               unfold pRead
                               simp only [e1, e2, e3, e4, e5, Option.bind_some]
                               rw [if_pos (Decidable.not_not.mp c825)])
                            | (refine RS.no (f5.trans f6) ?_
                               unfold pRead
                               simp only [e1, e2, e3, e4, e5, Option.bind_some]
                               rw [if_neg c825])
                            | (refine RS.no (f0.trans fr792) ?_
                               unfold pRead
                               simp only [r792.n c793, Option.bind_none, Option.bind_some])
                            | (refine RS.no (f1.trans fr798) ?_
                               unfold pRead
                               simp only [e1, r798.n c799, Option.bind_none, Option.bind_some])
                            | (refine RS.no (f2.trans fr804) ?_
                               unfold pRead
                               simp only [e1, e2, r804.n c805, Option.bind_none, Option.bind_some])
                            | (refine RS.no (f3.trans fr811) ?_
                               unfold pRead
                               simp only [e1, e2, e3, r811.n c812, Option.bind_none, Option.bind_some])
                            | (refine RS.no (f4.trans fr818) ?_
                               unfold pRead
                               simp only [e1, e2, e3, e4, r818.n c819, Option.bind_none, Option.bind_some])
                      · obtain ⟨-, z⟩ := q823
                        cases z
                  · obtain ⟨-, _, z, -⟩ := q818
                    cases z
              · obtain ⟨-, _, z, -⟩ := q811
                cases z
          · obtain ⟨-, _, z, -⟩ := q804
            cases z
      · obtain ⟨-, _, z, -⟩ := q798
        cases z
  · obtain ⟨-, _, z, -⟩ := q792
    cases z

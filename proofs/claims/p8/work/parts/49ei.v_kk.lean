/-! ===== values: the cluster, 7 ===== -/
theorem vr_50_0 : zrx 50 0 = some (.iconst 0, 0, 0) := by decide +kernel
theorem vr_50_1 : zrx 50 1 = some (.istore_n 2, 0, 0) := by decide +kernel
theorem vr_50_2 : zrx 50 2 = some (.iconst 0, 0, 0) := by decide +kernel
theorem vr_50_3 : zrx 50 3 = some (.istore_n 3, 0, 0) := by decide +kernel
theorem vr_50_4 : zrx 50 4 = some (.iload_n 3, 0, 0) := by decide +kernel
theorem vr_50_5 : zrx 50 5 = some (.iconst 4, 0, 0) := by decide +kernel
theorem vr_50_6 : zrx 50 6 = some (.if_icmp .ge 25, 0, 0) := by decide +kernel
theorem vr_50_9 : zrx 50 9 = some (.aload_n 0, 0, 0) := by decide +kernel
theorem vr_50_10 : zrx 50 10 = some (.getfield 11, 11, 0) := by decide +kernel
theorem vr_50_13 : zrx 50 13 = some (.iload_n 3, 0, 0) := by decide +kernel
theorem vr_50_14 : zrx 50 14 = some (.aaload, 0, 0) := by decide +kernel
theorem vr_50_15 : zrx 50 15 = some (.getfield 22, 9, 3) := by decide +kernel
theorem vr_50_18 : zrx 50 18 = some (.iload_n 1, 0, 0) := by decide +kernel
theorem vr_50_19 : zrx 50 19 = some (.if_icmp .ne 6, 0, 0) := by decide +kernel
theorem vr_50_22 : zrx 50 22 = some (.iinc 2 1, 0, 0) := by decide +kernel
theorem vr_50_25 : zrx 50 25 = some (.iinc 3 1, 0, 0) := by decide +kernel
theorem vr_50_28 : zrx 50 28 = some (.goto (-24), 0, 0) := by decide +kernel
theorem vr_50_31 : zrx 50 31 = some (.iload_n 2, 0, 0) := by decide +kernel
theorem vr_50_32 : zrx 50 32 = some (.ireturn, 0, 0) := by decide +kernel
theorem vr_53_0 : zrx 53 0 = some (.aload_n 1, 0, 0) := by decide +kernel
theorem vr_53_1 : zrx 53 1 = some (.getfield 34, 3, 1) := by decide +kernel
theorem vr_53_4 : zrx 53 4 = some (.getfield 40, 4, 0) := by decide +kernel
theorem vr_53_7 : zrx 53 7 = some (.istore_n 2, 0, 0) := by decide +kernel
theorem vr_53_8 : zrx 53 8 = some (.iconst 0, 0, 0) := by decide +kernel
theorem vr_53_9 : zrx 53 9 = some (.istore_n 3, 0, 0) := by decide +kernel
theorem vr_53_10 : zrx 53 10 = some (.iload_n 3, 0, 0) := by decide +kernel
theorem vr_53_11 : zrx 53 11 = some (.iconst 4, 0, 0) := by decide +kernel
theorem vr_53_12 : zrx 53 12 = some (.if_icmp .ge 56, 0, 0) := by decide +kernel
theorem vr_53_15 : zrx 53 15 = some (.aload_n 0, 0, 0) := by decide +kernel
theorem vr_53_16 : zrx 53 16 = some (.getfield 11, 11, 0) := by decide +kernel
theorem vr_53_19 : zrx 53 19 = some (.iload_n 3, 0, 0) := by decide +kernel
theorem vr_53_20 : zrx 53 20 = some (.aaload, 0, 0) := by decide +kernel
theorem vr_53_21 : zrx 53 21 = some (.astore 4, 0, 0) := by decide +kernel
theorem vr_53_23 : zrx 53 23 = some (.aload 4, 0, 0) := by decide +kernel
theorem vr_53_25 : zrx 53 25 = some (.getfield 22, 9, 3) := by decide +kernel
theorem vr_53_28 : zrx 53 28 = some (.aload_n 1, 0, 0) := by decide +kernel
theorem vr_53_29 : zrx 53 29 = some (.getfield 45, 3, 0) := by decide +kernel
theorem vr_53_32 : zrx 53 32 = some (.if_icmp .ne 30, 0, 0) := by decide +kernel
theorem vr_53_35 : zrx 53 35 = some (.aload 4, 0, 0) := by decide +kernel
theorem vr_53_37 : zrx 53 37 = some (.iconst (-1), 0, 0) := by decide +kernel
theorem vr_53_38 : zrx 53 38 = some (.putfield 22, 9, 3) := by decide +kernel
theorem vr_53_41 : zrx 53 41 = some (.aload 4, 0, 0) := by decide +kernel
theorem vr_53_43 : zrx 53 43 = some (.getfield 48, 9, 0) := by decide +kernel
theorem vr_53_46 : zrx 53 46 = some (.iload_n 2, 0, 0) := by decide +kernel
theorem vr_53_47 : zrx 53 47 = some (.aload 4, 0, 0) := by decide +kernel
theorem vr_53_49 : zrx 53 49 = some (.getfield 48, 9, 0) := by decide +kernel
theorem vr_53_52 : zrx 53 52 = some (.iload_n 2, 0, 0) := by decide +kernel
theorem vr_53_53 : zrx 53 53 = some (.iaload, 0, 0) := by decide +kernel
theorem vr_53_54 : zrx 53 54 = some (.iconst 1, 0, 0) := by decide +kernel
theorem vr_53_55 : zrx 53 55 = some (.isub, 0, 0) := by decide +kernel
theorem vr_53_56 : zrx 53 56 = some (.bipush (-5), 0, 0) := by decide +kernel
theorem vr_53_58 : zrx 53 58 = some (.invokestatic 51, 261, 0) := by decide +kernel
theorem vr_53_61 : zrx 53 61 = some (.iastore, 0, 0) := by decide +kernel
theorem vr_53_62 : zrx 53 62 = some (.iinc 3 1, 0, 0) := by decide +kernel
theorem vr_53_65 : zrx 53 65 = some (.goto (-55), 0, 0) := by decide +kernel
theorem vr_53_68 : zrx 53 68 = some (.return_, 0, 0) := by decide +kernel
theorem vr_69_0 : zrx 69 0 = some (.iload_n 1, 0, 0) := by decide +kernel
theorem vr_69_1 : zrx 69 1 = some (.iconst 4, 0, 0) := by decide +kernel
theorem vr_69_2 : zrx 69 2 = some (.invokestatic 68, 96, 0) := by decide +kernel
theorem vr_69_5 : zrx 69 5 = some (.iload_n 2, 0, 0) := by decide +kernel
theorem vr_69_6 : zrx 69 6 = some (.aload_n 0, 0, 0) := by decide +kernel
theorem vr_69_7 : zrx 69 7 = some (.getfield 42, 13, 10) := by decide +kernel
theorem vr_69_10 : zrx 69 10 = some (.getfield 165, 5, 2) := by decide +kernel
theorem vr_69_13 : zrx 69 13 = some (.invokestatic 68, 96, 0) := by decide +kernel
theorem vr_69_16 : zrx 69 16 = some (.aload_n 0, 0, 0) := by decide +kernel
theorem vr_69_17 : zrx 69 17 = some (.getfield 42, 13, 10) := by decide +kernel
theorem vr_69_20 : zrx 69 20 = some (.getfield 170, 5, 0) := by decide +kernel
theorem vr_69_23 : zrx 69 23 = some (.iload_n 2, 0, 0) := by decide +kernel
theorem vr_69_24 : zrx 69 24 = some (.aaload, 0, 0) := by decide +kernel
theorem vr_69_25 : zrx 69 25 = some (.getfield 174, 3, 2) := by decide +kernel
theorem vr_69_28 : zrx 69 28 = some (.ifCond .ne 7, 0, 0) := by decide +kernel
theorem vr_69_31 : zrx 69 31 = some (.iconst 1, 0, 0) := by decide +kernel
theorem vr_69_32 : zrx 69 32 = some (.goto 4, 0, 0) := by decide +kernel
theorem vr_69_35 : zrx 69 35 = some (.iconst 0, 0, 0) := by decide +kernel
theorem vr_69_36 : zrx 69 36 = some (.invokestatic 83, 98, 0) := by decide +kernel
theorem vr_69_39 : zrx 69 39 = some (.aload_n 0, 0, 0) := by decide +kernel
theorem vr_69_40 : zrx 69 40 = some (.getfield 49, 13, 11) := by decide +kernel
theorem vr_69_43 : zrx 69 43 = some (.getfield 179, 11, 0) := by decide +kernel
theorem vr_69_46 : zrx 69 46 = some (.iload_n 1, 0, 0) := by decide +kernel
theorem vr_69_47 : zrx 69 47 = some (.aaload, 0, 0) := by decide +kernel
theorem vr_69_48 : zrx 69 48 = some (.getfield 197, 9, 3) := by decide +kernel
theorem vr_69_51 : zrx 69 51 = some (.iconst (-1), 0, 0) := by decide +kernel
theorem vr_69_52 : zrx 69 52 = some (.if_icmp .ne 7, 0, 0) := by decide +kernel
theorem vr_69_55 : zrx 69 55 = some (.iconst 1, 0, 0) := by decide +kernel
theorem vr_69_56 : zrx 69 56 = some (.goto 4, 0, 0) := by decide +kernel
theorem vr_69_59 : zrx 69 59 = some (.iconst 0, 0, 0) := by decide +kernel
theorem vr_69_60 : zrx 69 60 = some (.invokestatic 83, 98, 0) := by decide +kernel
theorem vr_69_63 : zrx 69 63 = some (.aload_n 0, 0, 0) := by decide +kernel
theorem vr_69_64 : zrx 69 64 = some (.getfield 49, 13, 11) := by decide +kernel
theorem vr_69_67 : zrx 69 67 = some (.getfield 179, 11, 0) := by decide +kernel
theorem vr_69_70 : zrx 69 70 = some (.iload_n 1, 0, 0) := by decide +kernel
theorem vr_69_71 : zrx 69 71 = some (.aaload, 0, 0) := by decide +kernel
theorem vr_69_72 : zrx 69 72 = some (.iload_n 2, 0, 0) := by decide +kernel
theorem vr_69_73 : zrx 69 73 = some (.putfield 197, 9, 3) := by decide +kernel
theorem vr_69_76 : zrx 69 76 = some (.aload_n 0, 0, 0) := by decide +kernel
theorem vr_69_77 : zrx 69 77 = some (.getfield 49, 13, 11) := by decide +kernel
theorem vr_69_80 : zrx 69 80 = some (.iload_n 2, 0, 0) := by decide +kernel
theorem vr_69_81 : zrx 69 81 = some (.invokevirtual 200, 50, 120) := by decide +kernel
theorem vr_69_84 : zrx 69 84 = some (.ireturn, 0, 0) := by decide +kernel
theorem vr_70_0 : zrx 70 0 = some (.iload_n 1, 0, 0) := by decide +kernel
theorem vr_70_1 : zrx 70 1 = some (.aload_n 0, 0, 0) := by decide +kernel
theorem vr_70_2 : zrx 70 2 = some (.getfield 42, 13, 10) := by decide +kernel
theorem vr_70_5 : zrx 70 5 = some (.getfield 165, 5, 2) := by decide +kernel
theorem vr_70_8 : zrx 70 8 = some (.invokestatic 68, 96, 0) := by decide +kernel
theorem vr_70_11 : zrx 70 11 = some (.aload_n 0, 0, 0) := by decide +kernel
theorem vr_70_12 : zrx 70 12 = some (.getfield 42, 13, 10) := by decide +kernel
theorem vr_70_15 : zrx 70 15 = some (.getfield 170, 5, 0) := by decide +kernel
theorem vr_70_18 : zrx 70 18 = some (.iload_n 1, 0, 0) := by decide +kernel
theorem vr_70_19 : zrx 70 19 = some (.aaload, 0, 0) := by decide +kernel
theorem vr_70_20 : zrx 70 20 = some (.astore_n 2, 0, 0) := by decide +kernel
theorem vr_70_21 : zrx 70 21 = some (.aload_n 2, 0, 0) := by decide +kernel
theorem vr_70_22 : zrx 70 22 = some (.getfield 174, 3, 2) := by decide +kernel
theorem vr_70_25 : zrx 70 25 = some (.ifCond .ne 7, 0, 0) := by decide +kernel
theorem vr_70_28 : zrx 70 28 = some (.iconst 1, 0, 0) := by decide +kernel
theorem vr_70_29 : zrx 70 29 = some (.goto 4, 0, 0) := by decide +kernel
theorem vr_70_32 : zrx 70 32 = some (.iconst 0, 0, 0) := by decide +kernel
theorem vr_70_33 : zrx 70 33 = some (.invokestatic 83, 98, 0) := by decide +kernel
theorem vr_70_36 : zrx 70 36 = some (.aload_n 0, 0, 0) := by decide +kernel
theorem vr_70_37 : zrx 70 37 = some (.getfield 49, 13, 11) := by decide +kernel
theorem vr_70_40 : zrx 70 40 = some (.aload_n 2, 0, 0) := by decide +kernel
theorem vr_70_41 : zrx 70 41 = some (.iconst 0, 0, 0) := by decide +kernel
theorem vr_70_42 : zrx 70 42 = some (.invokevirtual 203, 52, 120) := by decide +kernel
theorem vr_70_45 : zrx 70 45 = some (.istore_n 3, 0, 0) := by decide +kernel
theorem vr_70_46 : zrx 70 46 = some (.iload_n 3, 0, 0) := by decide +kernel
theorem vr_70_47 : zrx 70 47 = some (.iconst 2, 0, 0) := by decide +kernel
theorem vr_70_48 : zrx 70 48 = some (.if_icmp .lt 22, 0, 0) := by decide +kernel
theorem vr_70_51 : zrx 70 51 = some (.aload_n 2, 0, 0) := by decide +kernel
theorem vr_70_52 : zrx 70 52 = some (.iconst 1, 0, 0) := by decide +kernel
theorem vr_70_53 : zrx 70 53 = some (.putfield 174, 3, 2) := by decide +kernel
theorem vr_70_56 : zrx 70 56 = some (.aload_n 2, 0, 0) := by decide +kernel
theorem vr_70_57 : zrx 70 57 = some (.aload_n 0, 0, 0) := by decide +kernel
theorem vr_70_58 : zrx 70 58 = some (.getfield 123, 13, 0) := by decide +kernel
theorem vr_70_61 : zrx 70 61 = some (.bipush 30, 0, 0) := by decide +kernel
theorem vr_70_63 : zrx 70 63 = some (.iadd, 0, 0) := by decide +kernel
theorem vr_70_64 : zrx 70 64 = some (.putfield 207, 3, 3) := by decide +kernel
theorem vr_70_67 : zrx 70 67 = some (.goto 8, 0, 0) := by decide +kernel
theorem vr_70_70 : zrx 70 70 = some (.aload_n 2, 0, 0) := by decide +kernel
theorem vr_70_71 : zrx 70 71 = some (.iconst 3, 0, 0) := by decide +kernel
theorem vr_70_72 : zrx 70 72 = some (.putfield 174, 3, 2) := by decide +kernel
theorem vr_70_75 : zrx 70 75 = some (.aload_n 0, 0, 0) := by decide +kernel
theorem vr_70_76 : zrx 70 76 = some (.getfield 49, 13, 11) := by decide +kernel
theorem vr_70_79 : zrx 70 79 = some (.aload_n 2, 0, 0) := by decide +kernel
theorem vr_70_80 : zrx 70 80 = some (.invokevirtual 210, 53, 120) := by decide +kernel
theorem vr_70_83 : zrx 70 83 = some (.iload_n 3, 0, 0) := by decide +kernel
theorem vr_70_84 : zrx 70 84 = some (.ireturn, 0, 0) := by decide +kernel
theorem vr_71_0 : zrx 71 0 = some (.iload_n 1, 0, 0) := by decide +kernel
theorem vr_71_1 : zrx 71 1 = some (.aload_n 0, 0, 0) := by decide +kernel
theorem vr_71_2 : zrx 71 2 = some (.getfield 42, 13, 10) := by decide +kernel
theorem vr_71_5 : zrx 71 5 = some (.getfield 165, 5, 2) := by decide +kernel
theorem vr_71_8 : zrx 71 8 = some (.invokestatic 68, 96, 0) := by decide +kernel
theorem vr_71_11 : zrx 71 11 = some (.aload_n 0, 0, 0) := by decide +kernel
theorem vr_71_12 : zrx 71 12 = some (.getfield 42, 13, 10) := by decide +kernel
theorem vr_71_15 : zrx 71 15 = some (.getfield 170, 5, 0) := by decide +kernel
theorem vr_71_18 : zrx 71 18 = some (.iload_n 1, 0, 0) := by decide +kernel
theorem vr_71_19 : zrx 71 19 = some (.aaload, 0, 0) := by decide +kernel
theorem vr_71_20 : zrx 71 20 = some (.astore_n 2, 0, 0) := by decide +kernel
theorem vr_71_21 : zrx 71 21 = some (.aload_n 2, 0, 0) := by decide +kernel
theorem vr_71_22 : zrx 71 22 = some (.getfield 174, 3, 2) := by decide +kernel
theorem vr_71_25 : zrx 71 25 = some (.iconst 1, 0, 0) := by decide +kernel
theorem vr_71_26 : zrx 71 26 = some (.if_icmp .ne 7, 0, 0) := by decide +kernel
theorem vr_71_29 : zrx 71 29 = some (.iconst 1, 0, 0) := by decide +kernel
theorem vr_71_30 : zrx 71 30 = some (.goto 4, 0, 0) := by decide +kernel
theorem vr_71_33 : zrx 71 33 = some (.iconst 0, 0, 0) := by decide +kernel
theorem vr_71_34 : zrx 71 34 = some (.invokestatic 83, 98, 0) := by decide +kernel
theorem vr_71_37 : zrx 71 37 = some (.aload_n 0, 0, 0) := by decide +kernel
theorem vr_71_38 : zrx 71 38 = some (.getfield 49, 13, 11) := by decide +kernel
theorem vr_71_41 : zrx 71 41 = some (.aload_n 2, 0, 0) := by decide +kernel
theorem vr_71_42 : zrx 71 42 = some (.iconst 1, 0, 0) := by decide +kernel
theorem vr_71_43 : zrx 71 43 = some (.invokevirtual 203, 52, 120) := by decide +kernel
theorem vr_71_46 : zrx 71 46 = some (.istore_n 3, 0, 0) := by decide +kernel
theorem vr_71_47 : zrx 71 47 = some (.iload_n 3, 0, 0) := by decide +kernel
theorem vr_71_48 : zrx 71 48 = some (.iconst 2, 0, 0) := by decide +kernel
theorem vr_71_49 : zrx 71 49 = some (.if_icmp .lt 19, 0, 0) := by decide +kernel
theorem vr_71_52 : zrx 71 52 = some (.aload_n 2, 0, 0) := by decide +kernel
theorem vr_71_53 : zrx 71 53 = some (.iconst 2, 0, 0) := by decide +kernel
theorem vr_71_54 : zrx 71 54 = some (.putfield 174, 3, 2) := by decide +kernel
theorem vr_71_57 : zrx 71 57 = some (.aload_n 2, 0, 0) := by decide +kernel
theorem vr_71_58 : zrx 71 58 = some (.aload_n 0, 0, 0) := by decide +kernel
theorem vr_71_59 : zrx 71 59 = some (.getfield 123, 13, 0) := by decide +kernel
theorem vr_71_62 : zrx 71 62 = some (.bipush 30, 0, 0) := by decide +kernel
theorem vr_71_64 : zrx 71 64 = some (.iadd, 0, 0) := by decide +kernel
theorem vr_71_65 : zrx 71 65 = some (.putfield 214, 3, 4) := by decide +kernel
theorem vr_71_68 : zrx 71 68 = some (.iload_n 3, 0, 0) := by decide +kernel
theorem vr_71_69 : zrx 71 69 = some (.ireturn, 0, 0) := by decide +kernel
theorem vr_166_0 : zrx 166 0 = some (.aload_n 0, 0, 0) := by decide +kernel
theorem vr_166_1 : zrx 166 1 = some (.iconst 0, 0, 0) := by decide +kernel
theorem vr_166_2 : zrx 166 2 = some (.putfield 55, 18, 0) := by decide +kernel
theorem vr_166_5 : zrx 166 5 = some (.iload_n 1, 0, 0) := by decide +kernel
theorem vr_166_6 : zrx 166 6 = some (.iconst 0, 0, 0) := by decide +kernel
theorem vr_166_7 : zrx 166 7 = some (.iconst 3, 0, 0) := by decide +kernel
theorem vr_166_8 : zrx 166 8 = some (.invokestatic 209, 132, 0) := by decide +kernel
theorem vr_166_11 : zrx 166 11 = some (.ifCond .eq 11, 0, 0) := by decide +kernel
theorem vr_166_14 : zrx 166 14 = some (.aload_n 0, 0, 0) := by decide +kernel
theorem vr_166_15 : zrx 166 15 = some (.iload_n 2, 0, 0) := by decide +kernel
theorem vr_166_16 : zrx 166 16 = some (.invokevirtual 256, 158, 190) := by decide +kernel
theorem vr_166_19 : zrx 166 19 = some (.ifCond .ne 9, 0, 0) := by decide +kernel
theorem vr_166_22 : zrx 166 22 = some (.aload_n 0, 0, 0) := by decide +kernel
theorem vr_166_23 : zrx 166 23 = some (.iconst 1, 0, 0) := by decide +kernel
theorem vr_166_24 : zrx 166 24 = some (.invokevirtual 212, 131, 190) := by decide +kernel
theorem vr_166_27 : zrx 166 27 = some (.ireturn, 0, 0) := by decide +kernel
theorem vr_166_28 : zrx 166 28 = some (.aload_n 0, 0, 0) := by decide +kernel
theorem vr_166_29 : zrx 166 29 = some (.iload_n 2, 0, 0) := by decide +kernel
theorem vr_166_30 : zrx 166 30 = some (.invokevirtual 259, 159, 190) := by decide +kernel
theorem vr_166_33 : zrx 166 33 = some (.ifCond .eq 13, 0, 0) := by decide +kernel
theorem vr_166_36 : zrx 166 36 = some (.aload_n 0, 0, 0) := by decide +kernel
theorem vr_166_37 : zrx 166 37 = some (.getfield 49, 18, 14) := by decide +kernel
theorem vr_166_40 : zrx 166 40 = some (.iload_n 1, 0, 0) := by decide +kernel
theorem vr_166_41 : zrx 166 41 = some (.iaload, 0, 0) := by decide +kernel
theorem vr_166_42 : zrx 166 42 = some (.iconst (-1), 0, 0) := by decide +kernel
theorem vr_166_43 : zrx 166 43 = some (.if_icmp .eq 9, 0, 0) := by decide +kernel
theorem vr_166_46 : zrx 166 46 = some (.aload_n 0, 0, 0) := by decide +kernel
theorem vr_166_47 : zrx 166 47 = some (.iconst 2, 0, 0) := by decide +kernel
theorem vr_166_48 : zrx 166 48 = some (.invokevirtual 212, 131, 190) := by decide +kernel
theorem vr_166_51 : zrx 166 51 = some (.ireturn, 0, 0) := by decide +kernel
theorem vr_166_52 : zrx 166 52 = some (.aload_n 0, 0, 0) := by decide +kernel
theorem vr_166_53 : zrx 166 53 = some (.getfield 49, 18, 14) := by decide +kernel
theorem vr_166_56 : zrx 166 56 = some (.iload_n 1, 0, 0) := by decide +kernel
theorem vr_166_57 : zrx 166 57 = some (.iload_n 2, 0, 0) := by decide +kernel
theorem vr_166_58 : zrx 166 58 = some (.iastore, 0, 0) := by decide +kernel
theorem vr_166_59 : zrx 166 59 = some (.iconst 0, 0, 0) := by decide +kernel
theorem vr_166_60 : zrx 166 60 = some (.istore_n 3, 0, 0) := by decide +kernel
theorem vr_166_61 : zrx 166 61 = some (.aload_n 0, 0, 0) := by decide +kernel
theorem vr_166_62 : zrx 166 62 = some (.getfield 49, 18, 14) := by decide +kernel
theorem vr_166_65 : zrx 166 65 = some (.astore 4, 0, 0) := by decide +kernel
theorem vr_166_67 : zrx 166 67 = some (.aload 4, 0, 0) := by decide +kernel
theorem vr_166_69 : zrx 166 69 = some (.arraylength, 0, 0) := by decide +kernel
theorem vr_166_70 : zrx 166 70 = some (.istore 5, 0, 0) := by decide +kernel
theorem vr_166_72 : zrx 166 72 = some (.iconst 0, 0, 0) := by decide +kernel
theorem vr_166_73 : zrx 166 73 = some (.istore 6, 0, 0) := by decide +kernel
theorem vr_166_75 : zrx 166 75 = some (.iload 6, 0, 0) := by decide +kernel
theorem vr_166_77 : zrx 166 77 = some (.iload 5, 0, 0) := by decide +kernel
theorem vr_166_79 : zrx 166 79 = some (.if_icmp .ge 30, 0, 0) := by decide +kernel
theorem vr_166_82 : zrx 166 82 = some (.aload 4, 0, 0) := by decide +kernel
theorem vr_166_84 : zrx 166 84 = some (.iload 6, 0, 0) := by decide +kernel
theorem vr_166_86 : zrx 166 86 = some (.iaload, 0, 0) := by decide +kernel
theorem vr_166_87 : zrx 166 87 = some (.istore 7, 0, 0) := by decide +kernel
theorem vr_166_89 : zrx 166 89 = some (.iload_n 3, 0, 0) := by decide +kernel
theorem vr_166_90 : zrx 166 90 = some (.iload 7, 0, 0) := by decide +kernel
theorem vr_166_92 : zrx 166 92 = some (.iload_n 2, 0, 0) := by decide +kernel
theorem vr_166_93 : zrx 166 93 = some (.if_icmp .ne 7, 0, 0) := by decide +kernel
theorem vr_166_96 : zrx 166 96 = some (.iconst 1, 0, 0) := by decide +kernel
theorem vr_166_97 : zrx 166 97 = some (.goto 4, 0, 0) := by decide +kernel
theorem vr_166_100 : zrx 166 100 = some (.iconst 0, 0, 0) := by decide +kernel
theorem vr_166_101 : zrx 166 101 = some (.iadd, 0, 0) := by decide +kernel
theorem vr_166_102 : zrx 166 102 = some (.istore_n 3, 0, 0) := by decide +kernel
theorem vr_166_103 : zrx 166 103 = some (.iinc 6 1, 0, 0) := by decide +kernel
theorem vr_166_106 : zrx 166 106 = some (.goto (-31), 0, 0) := by decide +kernel
theorem vr_166_109 : zrx 166 109 = some (.iload_n 3, 0, 0) := by decide +kernel
theorem vr_166_110 : zrx 166 110 = some (.ireturn, 0, 0) := by decide +kernel
theorem vr_170_0 : zrx 170 0 = some (.aload_n 0, 0, 0) := by decide +kernel
theorem vr_170_1 : zrx 170 1 = some (.iconst 0, 0, 0) := by decide +kernel
theorem vr_170_2 : zrx 170 2 = some (.putfield 55, 18, 0) := by decide +kernel
theorem vr_170_5 : zrx 170 5 = some (.aload_n 0, 0, 0) := by decide +kernel
theorem vr_170_6 : zrx 170 6 = some (.iload_n 1, 0, 0) := by decide +kernel
theorem vr_170_7 : zrx 170 7 = some (.invokevirtual 256, 158, 190) := by decide +kernel
theorem vr_170_10 : zrx 170 10 = some (.ifCond .ne 9, 0, 0) := by decide +kernel
theorem vr_170_13 : zrx 170 13 = some (.aload_n 0, 0, 0) := by decide +kernel
theorem vr_170_14 : zrx 170 14 = some (.iconst 1, 0, 0) := by decide +kernel
theorem vr_170_15 : zrx 170 15 = some (.invokevirtual 212, 131, 190) := by decide +kernel
theorem vr_170_18 : zrx 170 18 = some (.ireturn, 0, 0) := by decide +kernel
theorem vr_170_19 : zrx 170 19 = some (.aload_n 0, 0, 0) := by decide +kernel
theorem vr_170_20 : zrx 170 20 = some (.iload_n 1, 0, 0) := by decide +kernel
theorem vr_170_21 : zrx 170 21 = some (.invokevirtual 259, 159, 190) := by decide +kernel
theorem vr_170_24 : zrx 170 24 = some (.ifCond .ne 9, 0, 0) := by decide +kernel
theorem vr_170_27 : zrx 170 27 = some (.aload_n 0, 0, 0) := by decide +kernel
theorem vr_170_28 : zrx 170 28 = some (.iconst 2, 0, 0) := by decide +kernel
theorem vr_170_29 : zrx 170 29 = some (.invokevirtual 212, 131, 190) := by decide +kernel
theorem vr_170_32 : zrx 170 32 = some (.ireturn, 0, 0) := by decide +kernel
theorem vr_170_33 : zrx 170 33 = some (.aload_n 0, 0, 0) := by decide +kernel
theorem vr_170_34 : zrx 170 34 = some (.iload_n 1, 0, 0) := by decide +kernel
theorem vr_170_35 : zrx 170 35 = some (.iconst 0, 0, 0) := by decide +kernel
theorem vr_170_36 : zrx 170 36 = some (.invokevirtual 273, 169, 190) := by decide +kernel
theorem vr_170_39 : zrx 170 39 = some (.istore_n 2, 0, 0) := by decide +kernel
theorem vr_170_40 : zrx 170 40 = some (.aload_n 0, 0, 0) := by decide +kernel
theorem vr_170_41 : zrx 170 41 = some (.getfield 31, 18, 9) := by decide +kernel
theorem vr_170_44 : zrx 170 44 = some (.iload_n 1, 0, 0) := by decide +kernel
theorem vr_170_45 : zrx 170 45 = some (.invokeinterface 65 2, 306, 35) := by decide +kernel
theorem vr_170_50 : zrx 170 50 = some (.checkcast 108, 15, 0) := by decide +kernel
theorem vr_170_53 : zrx 170 53 = some (.astore_n 3, 0, 0) := by decide +kernel
theorem vr_170_54 : zrx 170 54 = some (.aload_n 3, 0, 0) := by decide +kernel
theorem vr_170_55 : zrx 170 55 = some (.iload_n 2, 0, 0) := by decide +kernel
theorem vr_170_56 : zrx 170 56 = some (.iconst 2, 0, 0) := by decide +kernel
theorem vr_170_57 : zrx 170 57 = some (.if_icmp .lt 7, 0, 0) := by decide +kernel
theorem vr_170_60 : zrx 170 60 = some (.iconst 1, 0, 0) := by decide +kernel
theorem vr_170_61 : zrx 170 61 = some (.goto 4, 0, 0) := by decide +kernel
theorem vr_170_64 : zrx 170 64 = some (.iconst 3, 0, 0) := by decide +kernel
theorem vr_170_65 : zrx 170 65 = some (.putfield 235, 15, 9) := by decide +kernel
theorem vr_170_68 : zrx 170 68 = some (.aload_n 3, 0, 0) := by decide +kernel
theorem vr_170_69 : zrx 170 69 = some (.iload_n 2, 0, 0) := by decide +kernel
theorem vr_170_70 : zrx 170 70 = some (.iconst 2, 0, 0) := by decide +kernel
theorem vr_170_71 : zrx 170 71 = some (.if_icmp .lt 13, 0, 0) := by decide +kernel
theorem vr_170_74 : zrx 170 74 = some (.aload_n 0, 0, 0) := by decide +kernel
theorem vr_170_75 : zrx 170 75 = some (.getfield 215, 18, 1) := by decide +kernel
theorem vr_170_78 : zrx 170 78 = some (.bipush 30, 0, 0) := by decide +kernel
theorem vr_170_80 : zrx 170 80 = some (.iadd, 0, 0) := by decide +kernel
theorem vr_170_81 : zrx 170 81 = some (.goto 4, 0, 0) := by decide +kernel
theorem vr_170_84 : zrx 170 84 = some (.iconst (-1), 0, 0) := by decide +kernel
theorem vr_170_85 : zrx 170 85 = some (.putfield 277, 15, 10) := by decide +kernel
theorem vr_170_88 : zrx 170 88 = some (.iconst 0, 0, 0) := by decide +kernel
theorem vr_170_89 : zrx 170 89 = some (.istore 4, 0, 0) := by decide +kernel
theorem vr_170_91 : zrx 170 91 = some (.iload 4, 0, 0) := by decide +kernel
theorem vr_170_93 : zrx 170 93 = some (.iconst 4, 0, 0) := by decide +kernel
theorem vr_170_94 : zrx 170 94 = some (.if_icmp .ge 62, 0, 0) := by decide +kernel
theorem vr_170_97 : zrx 170 97 = some (.aload_n 0, 0, 0) := by decide +kernel
theorem vr_170_98 : zrx 170 98 = some (.getfield 49, 18, 14) := by decide +kernel
theorem vr_170_101 : zrx 170 101 = some (.iload 4, 0, 0) := by decide +kernel
theorem vr_170_103 : zrx 170 103 = some (.iaload, 0, 0) := by decide +kernel
theorem vr_170_104 : zrx 170 104 = some (.iload_n 1, 0, 0) := by decide +kernel
theorem vr_170_105 : zrx 170 105 = some (.if_icmp .eq 6, 0, 0) := by decide +kernel
theorem vr_170_108 : zrx 170 108 = some (.goto 42, 0, 0) := by decide +kernel
theorem vr_170_111 : zrx 170 111 = some (.aload_n 0, 0, 0) := by decide +kernel
theorem vr_170_112 : zrx 170 112 = some (.getfield 49, 18, 14) := by decide +kernel
theorem vr_170_115 : zrx 170 115 = some (.iload 4, 0, 0) := by decide +kernel
theorem vr_170_117 : zrx 170 117 = some (.iconst (-1), 0, 0) := by decide +kernel
theorem vr_170_118 : zrx 170 118 = some (.iastore, 0, 0) := by decide +kernel
theorem vr_170_119 : zrx 170 119 = some (.aload_n 0, 0, 0) := by decide +kernel
theorem vr_170_120 : zrx 170 120 = some (.getfield 43, 18, 12) := by decide +kernel
theorem vr_170_123 : zrx 170 123 = some (.iload 4, 0, 0) := by decide +kernel
theorem vr_170_125 : zrx 170 125 = some (.aaload, 0, 0) := by decide +kernel
theorem vr_170_126 : zrx 170 126 = some (.aload_n 3, 0, 0) := by decide +kernel
theorem vr_170_127 : zrx 170 127 = some (.getfield 183, 15, 0) := by decide +kernel
theorem vr_170_130 : zrx 170 130 = some (.bipush (-5), 0, 0) := by decide +kernel
theorem vr_170_132 : zrx 170 132 = some (.aload_n 0, 0, 0) := by decide +kernel
theorem vr_170_133 : zrx 170 133 = some (.getfield 43, 18, 12) := by decide +kernel
theorem vr_170_136 : zrx 170 136 = some (.iload 4, 0, 0) := by decide +kernel
theorem vr_170_138 : zrx 170 138 = some (.aaload, 0, 0) := by decide +kernel
theorem vr_170_139 : zrx 170 139 = some (.aload_n 3, 0, 0) := by decide +kernel
theorem vr_170_140 : zrx 170 140 = some (.getfield 183, 15, 0) := by decide +kernel
theorem vr_170_143 : zrx 170 143 = some (.iaload, 0, 0) := by decide +kernel
theorem vr_170_144 : zrx 170 144 = some (.iconst 1, 0, 0) := by decide +kernel
theorem vr_170_145 : zrx 170 145 = some (.isub, 0, 0) := by decide +kernel
theorem vr_170_146 : zrx 170 146 = some (.invokestatic 105, 261, 0) := by decide +kernel
theorem vr_170_149 : zrx 170 149 = some (.iastore, 0, 0) := by decide +kernel
theorem vr_170_150 : zrx 170 150 = some (.iinc 4 1, 0, 0) := by decide +kernel
theorem vr_170_153 : zrx 170 153 = some (.goto (-62), 0, 0) := by decide +kernel
theorem vr_170_156 : zrx 170 156 = some (.iload_n 2, 0, 0) := by decide +kernel
theorem vr_170_157 : zrx 170 157 = some (.ireturn, 0, 0) := by decide +kernel
theorem vr_171_0 : zrx 171 0 = some (.aload_n 0, 0, 0) := by decide +kernel
theorem vr_171_1 : zrx 171 1 = some (.iconst 0, 0, 0) := by decide +kernel
theorem vr_171_2 : zrx 171 2 = some (.putfield 55, 18, 0) := by decide +kernel
theorem vr_171_5 : zrx 171 5 = some (.aload_n 0, 0, 0) := by decide +kernel
theorem vr_171_6 : zrx 171 6 = some (.iload_n 1, 0, 0) := by decide +kernel
theorem vr_171_7 : zrx 171 7 = some (.invokevirtual 256, 158, 190) := by decide +kernel
theorem vr_171_10 : zrx 171 10 = some (.ifCond .ne 9, 0, 0) := by decide +kernel
theorem vr_171_13 : zrx 171 13 = some (.aload_n 0, 0, 0) := by decide +kernel
theorem vr_171_14 : zrx 171 14 = some (.iconst 1, 0, 0) := by decide +kernel
theorem vr_171_15 : zrx 171 15 = some (.invokevirtual 212, 131, 190) := by decide +kernel
theorem vr_171_18 : zrx 171 18 = some (.ireturn, 0, 0) := by decide +kernel
theorem vr_171_19 : zrx 171 19 = some (.aload_n 0, 0, 0) := by decide +kernel
theorem vr_171_20 : zrx 171 20 = some (.getfield 31, 18, 9) := by decide +kernel
theorem vr_171_23 : zrx 171 23 = some (.iload_n 1, 0, 0) := by decide +kernel
theorem vr_171_24 : zrx 171 24 = some (.invokeinterface 65 2, 306, 35) := by decide +kernel
theorem vr_171_29 : zrx 171 29 = some (.checkcast 108, 15, 0) := by decide +kernel
theorem vr_171_32 : zrx 171 32 = some (.astore_n 2, 0, 0) := by decide +kernel
theorem vr_171_33 : zrx 171 33 = some (.aload_n 2, 0, 0) := by decide +kernel
theorem vr_171_34 : zrx 171 34 = some (.getfield 235, 15, 9) := by decide +kernel
theorem vr_171_37 : zrx 171 37 = some (.iconst 1, 0, 0) := by decide +kernel
theorem vr_171_38 : zrx 171 38 = some (.if_icmp .eq 9, 0, 0) := by decide +kernel
theorem vr_171_41 : zrx 171 41 = some (.aload_n 0, 0, 0) := by decide +kernel
theorem vr_171_42 : zrx 171 42 = some (.iconst 2, 0, 0) := by decide +kernel
theorem vr_171_43 : zrx 171 43 = some (.invokevirtual 212, 131, 190) := by decide +kernel
theorem vr_171_46 : zrx 171 46 = some (.ireturn, 0, 0) := by decide +kernel
theorem vr_171_47 : zrx 171 47 = some (.aload_n 0, 0, 0) := by decide +kernel
theorem vr_171_48 : zrx 171 48 = some (.iload_n 1, 0, 0) := by decide +kernel
theorem vr_171_49 : zrx 171 49 = some (.iconst 1, 0, 0) := by decide +kernel
theorem vr_171_50 : zrx 171 50 = some (.invokevirtual 273, 169, 190) := by decide +kernel
theorem vr_171_53 : zrx 171 53 = some (.istore_n 3, 0, 0) := by decide +kernel
theorem vr_171_54 : zrx 171 54 = some (.iload_n 3, 0, 0) := by decide +kernel
theorem vr_171_55 : zrx 171 55 = some (.iconst 2, 0, 0) := by decide +kernel
theorem vr_171_56 : zrx 171 56 = some (.if_icmp .lt 19, 0, 0) := by decide +kernel
theorem vr_171_59 : zrx 171 59 = some (.aload_n 2, 0, 0) := by decide +kernel
theorem vr_171_60 : zrx 171 60 = some (.iconst 2, 0, 0) := by decide +kernel
theorem vr_171_61 : zrx 171 61 = some (.putfield 235, 15, 9) := by decide +kernel
theorem vr_171_64 : zrx 171 64 = some (.aload_n 2, 0, 0) := by decide +kernel
theorem vr_171_65 : zrx 171 65 = some (.aload_n 0, 0, 0) := by decide +kernel
theorem vr_171_66 : zrx 171 66 = some (.getfield 215, 18, 1) := by decide +kernel
theorem vr_171_69 : zrx 171 69 = some (.bipush 30, 0, 0) := by decide +kernel
theorem vr_171_71 : zrx 171 71 = some (.iadd, 0, 0) := by decide +kernel
theorem vr_171_72 : zrx 171 72 = some (.putfield 280, 15, 11) := by decide +kernel
theorem vr_171_75 : zrx 171 75 = some (.iload_n 3, 0, 0) := by decide +kernel
theorem vr_171_76 : zrx 171 76 = some (.ireturn, 0, 0) := by decide +kernel
theorem vr_220_0 : zrx 220 0 = some (.aload_n 3, 0, 0) := by decide +kernel
theorem vr_220_1 : zrx 220 1 = some (.aload_n 0, 0, 0) := by decide +kernel
theorem vr_220_2 : zrx 220 2 = some (.iload_n 1, 0, 0) := by decide +kernel
theorem vr_220_3 : zrx 220 3 = some (.iload_n 2, 0, 0) := by decide +kernel
theorem vr_220_4 : zrx 220 4 = some (.invokevirtual 63, 69, 140) := by decide +kernel
theorem vr_220_7 : zrx 220 7 = some (.i2l, 0, 0) := by decide +kernel
theorem vr_220_8 : zrx 220 8 = some (.putfield 13, 14, 1000) := by decide +kernel
theorem vr_220_11 : zrx 220 11 = some (.goto 11, 0, 0) := by decide +kernel
theorem vr_220_14 : zrx 220 14 = some (.astore 4, 0, 0) := by decide +kernel
theorem vr_220_16 : zrx 220 16 = some (.iconst 1, 0, 0) := by decide +kernel
theorem vr_220_17 : zrx 220 17 = some (.ireturn, 0, 0) := by decide +kernel
theorem vr_220_18 : zrx 220 18 = some (.astore 4, 0, 0) := by decide +kernel
theorem vr_220_20 : zrx 220 20 = some (.iconst 2, 0, 0) := by decide +kernel
theorem vr_220_21 : zrx 220 21 = some (.ireturn, 0, 0) := by decide +kernel
theorem vr_220_22 : zrx 220 22 = some (.iconst 0, 0, 0) := by decide +kernel
theorem vr_220_23 : zrx 220 23 = some (.ireturn, 0, 0) := by decide +kernel
theorem vr_221_0 : zrx 221 0 = some (.aload_n 2, 0, 0) := by decide +kernel
theorem vr_221_1 : zrx 221 1 = some (.aload_n 0, 0, 0) := by decide +kernel
theorem vr_221_2 : zrx 221 2 = some (.iload_n 1, 0, 0) := by decide +kernel
theorem vr_221_3 : zrx 221 3 = some (.invokevirtual 66, 70, 140) := by decide +kernel
theorem vr_221_6 : zrx 221 6 = some (.i2l, 0, 0) := by decide +kernel
theorem vr_221_7 : zrx 221 7 = some (.putfield 13, 14, 1000) := by decide +kernel
theorem vr_221_10 : zrx 221 10 = some (.goto 9, 0, 0) := by decide +kernel
theorem vr_221_13 : zrx 221 13 = some (.astore_n 3, 0, 0) := by decide +kernel
theorem vr_221_14 : zrx 221 14 = some (.iconst 1, 0, 0) := by decide +kernel
theorem vr_221_15 : zrx 221 15 = some (.ireturn, 0, 0) := by decide +kernel
theorem vr_221_16 : zrx 221 16 = some (.astore_n 3, 0, 0) := by decide +kernel
theorem vr_221_17 : zrx 221 17 = some (.iconst 2, 0, 0) := by decide +kernel
theorem vr_221_18 : zrx 221 18 = some (.ireturn, 0, 0) := by decide +kernel
theorem vr_221_19 : zrx 221 19 = some (.iconst 0, 0, 0) := by decide +kernel
theorem vr_221_20 : zrx 221 20 = some (.ireturn, 0, 0) := by decide +kernel
theorem vr_222_0 : zrx 222 0 = some (.aload_n 2, 0, 0) := by decide +kernel
theorem vr_222_1 : zrx 222 1 = some (.aload_n 0, 0, 0) := by decide +kernel
theorem vr_222_2 : zrx 222 2 = some (.iload_n 1, 0, 0) := by decide +kernel
theorem vr_222_3 : zrx 222 3 = some (.invokevirtual 69, 71, 140) := by decide +kernel
theorem vr_222_6 : zrx 222 6 = some (.i2l, 0, 0) := by decide +kernel
theorem vr_222_7 : zrx 222 7 = some (.putfield 13, 14, 1000) := by decide +kernel
theorem vr_222_10 : zrx 222 10 = some (.goto 9, 0, 0) := by decide +kernel
theorem vr_222_13 : zrx 222 13 = some (.astore_n 3, 0, 0) := by decide +kernel
theorem vr_222_14 : zrx 222 14 = some (.iconst 1, 0, 0) := by decide +kernel
theorem vr_222_15 : zrx 222 15 = some (.ireturn, 0, 0) := by decide +kernel
theorem vr_222_16 : zrx 222 16 = some (.astore_n 3, 0, 0) := by decide +kernel
theorem vr_222_17 : zrx 222 17 = some (.iconst 2, 0, 0) := by decide +kernel
theorem vr_222_18 : zrx 222 18 = some (.ireturn, 0, 0) := by decide +kernel
theorem vr_222_19 : zrx 222 19 = some (.iconst 0, 0, 0) := by decide +kernel
theorem vr_222_20 : zrx 222 20 = some (.ireturn, 0, 0) := by decide +kernel
theorem vh_69_2_0 : zHit (zi 69) 2 0 = none := by decide +kernel
theorem vh_69_13_0 : zHit (zi 69) 13 0 = none := by decide +kernel
theorem vh_69_36_2 : zHit (zi 69) 36 2 = none := by decide +kernel
theorem vh_69_60_2 : zHit (zi 69) 60 2 = none := by decide +kernel
theorem vh_70_8_0 : zHit (zi 70) 8 0 = none := by decide +kernel
theorem vh_70_33_2 : zHit (zi 70) 33 2 = none := by decide +kernel
theorem vh_71_8_0 : zHit (zi 71) 8 0 = none := by decide +kernel
theorem vh_71_34_2 : zHit (zi 71) 34 2 = none := by decide +kernel
theorem vh_220_4_0 : (zHit (zi 220) 4 0).map (fun r => r.2.2.1) = some 14 := by decide +kernel
theorem vh_220_4_2 : (zHit (zi 220) 4 2).map (fun r => r.2.2.1) = some 18 := by decide +kernel
theorem vh_221_3_0 : (zHit (zi 221) 3 0).map (fun r => r.2.2.1) = some 13 := by decide +kernel
theorem vh_221_3_2 : (zHit (zi 221) 3 2).map (fun r => r.2.2.1) = some 16 := by decide +kernel
theorem vh_222_3_0 : (zHit (zi 222) 3 0).map (fun r => r.2.2.1) = some 13 := by decide +kernel
theorem vh_222_3_2 : (zHit (zi 222) 3 2).map (fun r => r.2.2.1) = some 16 := by decide +kernel
set_option maxRecDepth 20000 in
theorem C_plf_loop {h : List zC} {b : Int32} (hS : Stc h) : ∀ (n k : Nat) (r : Int32) (u : Nat), k ≤ 4 → pcF (fun f => iv h (171 + 3 * f) 3) b k = r → zL zrx zi n 50 4 [(3, .int (Int32.ofNat k)), (2, .int r), (0, .ref 169), (1, .int b)] [] h u (fun o h2 _ => h2 = h ∧ o = .inl (some (.int (pcF (fun f => iv h (171 + 3 * f) 3) b 4))))
  | 0, _, _, _ => fun _ _ => trivial
  | n + 1, k, r, u => fun hk hD => by
    have kk := (toNat_ofNat (m := k) (by omega))
    have z4 : (4 : Int32).toInt = 4 := rfl
    refine zLp vr_50_4 rfl rfl ?_
    refine zSp0 (pc' := 6) (st' := .int (4) :: _) vr_50_5 rfl rfl ?_
    refine zSb2 (f := fun x y => decide (y ≤ x)) (off := 25) (t := 31) vr_50_6 rfl rfl rfl (fun x3013 y3013 e3013 f3013 q3013 => ?_) (fun x3013 y3013 e3013 f3013 q3013 => ?_)
    · cases e3013
      cases f3013
      have c3013 := of_decide_eq_true q3013
      refine zSiload (m := 1) (k := 2) vr_50_31 rfl rfl rfl (fun x3014 e3014 => ?_)
      cases e3014
      refine zLiret vr_50_32 rfl (fun x3015 e3015 => ?_)
      cases e3015
      have e : k = 4 := by
        have y := c3013
        rw [i32_le, kk.2, z4] at y
        omega
      subst e
      rw [hD]
      exact ⟨rfl, rfl⟩
    · cases e3013
      cases f3013
      have c3013 := ndc q3013
      have k4 : k < 4 := by
        have y := c3013
        rw [i32_le, kk.2, z4] at y
        omega
      have hI : gF h 170 (Int32.ofNat k).toNatClampNeg = some (.ref (171 + 3 * k)) := by
        rw [kk.1]
        exact st_fac hS k4
      refine zSaload (m := 1) (k := 0) vr_50_9 rfl rfl rfl ?_
      refine zLget vr_50_10 rfl (fun p3017 w3017 e3017 t3017 g3017 => ?_)
      cases e3017
      first | (rw [(st_169_0 hS)] at g3017; cases g3017) | (rw [hI] at g3017; cases g3017) | skip
      refine zSiload (m := 1) (k := 3) vr_50_13 rfl rfl rfl (fun x3018 e3018 => ?_)
      cases e3018
      refine zLaald vr_50_14 rfl (fun p3019 x3019 w3019 e3019 f3019 c3019 t3019 g3019 => ?_)
      cases e3019
      cases f3019
      first | (rw [(st_169_0 hS)] at g3019; cases g3019) | (rw [hI] at g3019; cases g3019) | skip
      refine zLget vr_50_15 rfl (fun p3020 w3020 e3020 t3020 g3020 => ?_)
      cases e3020
      first | (rw [(st_169_0 hS)] at g3020; cases g3020) | (rw [hI] at g3020; cases g3020) | skip
      refine zSiload (m := 1) (k := 1) vr_50_18 rfl rfl rfl (fun x3021 e3021 => ?_)
      cases e3021
      refine zSb2 (f := fun x y => decide (¬ x = y)) (off := 6) (t := 25) vr_50_19 rfl rfl rfl (fun x3022 y3022 e3022 f3022 q3022 => ?_) (fun x3022 y3022 e3022 f3022 q3022 => ?_)
      · cases e3022
        cases f3022
        have c3022 := of_decide_eq_true q3022
        refine zSiinc vr_50_25 rfl rfl (fun x3023 e3023 => ?_)
        cases e3023
        show zL zrx zi _ 50 28 [(3, _), (2, _), (0, _), (1, _)] [] _ _ _
        refine zSgo (t := 4) vr_50_28 rfl rfl ?_
        rw [ofNat_succ]
        refine zL_pm _ _ _ [(3, _), (2, _), (0, _), (1, _)] _ _ _ _ _ ⟨(List.forall_mem_cons.mpr ⟨List.mem_cons_self, (List.forall_mem_cons.mpr ⟨(List.mem_cons_of_mem _ List.mem_cons_self), (List.forall_mem_cons.mpr ⟨(List.mem_cons_of_mem _ (List.mem_cons_of_mem _ List.mem_cons_self)), (List.forall_mem_cons.mpr ⟨(List.mem_cons_of_mem _ (List.mem_cons_of_mem _ (List.mem_cons_of_mem _ List.mem_cons_self))), (fun _ h => absurd h List.not_mem_nil)⟩)⟩)⟩)⟩), show ([3, 2, 0, 1] : List Nat).Nodup by decide⟩ (C_plf_loop hS n (k + 1) _ _ (by omega) ?_)
        first
          | exact (pcF_n (by rw [iv_of g3020]; exact c3022)).trans hD
          | exact (pcF_y (by rw [iv_of g3020]; exact Decidable.not_not.mp c3022)).trans (by rw [hD]; rfl)
      · cases e3022
        cases f3022
        have c3022 := ndc q3022
        refine zSiinc vr_50_22 rfl rfl (fun x3025 e3025 => ?_)
        cases e3025
        show zL zrx zi _ 50 25 [(2, _), (3, _), (0, _), (1, _)] [] _ _ _
        refine zSiinc vr_50_25 rfl rfl (fun x3026 e3026 => ?_)
        cases e3026
        show zL zrx zi _ 50 28 [(3, _), (2, _), (0, _), (1, _)] [] _ _ _
        refine zSgo (t := 4) vr_50_28 rfl rfl ?_
        rw [ofNat_succ]
        refine zL_pm _ _ _ [(3, _), (2, _), (0, _), (1, _)] _ _ _ _ _ ⟨(List.forall_mem_cons.mpr ⟨List.mem_cons_self, (List.forall_mem_cons.mpr ⟨(List.mem_cons_of_mem _ List.mem_cons_self), (List.forall_mem_cons.mpr ⟨(List.mem_cons_of_mem _ (List.mem_cons_of_mem _ List.mem_cons_self)), (List.forall_mem_cons.mpr ⟨(List.mem_cons_of_mem _ (List.mem_cons_of_mem _ (List.mem_cons_of_mem _ List.mem_cons_self))), (fun _ h => absurd h List.not_mem_nil)⟩)⟩)⟩)⟩), show ([3, 2, 0, 1] : List Nat).Nodup by decide⟩ (C_plf_loop hS n (k + 1) _ _ (by omega) ?_)
        first
          | exact (pcF_n (by rw [iv_of g3020]; exact c3022)).trans hD
          | exact (pcF_y (by rw [iv_of g3020]; exact Decidable.not_not.mp c3022)).trans (by rw [hD]; rfl)
theorem C_plf (n : Nat) (b : Int32) (h : List zC) (u : Nat) (hS : Stc h) : zL zrx zi n 50 0 [(0, .ref 169), (1, .int b)] [] h u (fun o h2 _ => h2 = h ∧ o = .inl (some (.int (pcF (fun f => iv h (171 + 3 * f) 3) b 4)))) := by
  refine zSp0 (pc' := 1) (st' := .int (0) :: _) vr_50_0 rfl rfl ?_
  refine zSistore (m := 1) (k := 2) vr_50_1 rfl rfl (fun x3029 e3029 => ?_)
  cases e3029
  show zL zrx zi _ 50 2 [(2, _), (0, _), (1, _)] [] _ _ _
  refine zSp0 (pc' := 3) (st' := .int (0) :: _) vr_50_2 rfl rfl ?_
  refine zSistore (m := 1) (k := 3) vr_50_3 rfl rfl (fun x3031 e3031 => ?_)
  cases e3031
  show zL zrx zi _ 50 4 [(3, _), (2, _), (0, _), (1, _)] [] _ _ _
  exact zL_pm _ _ _ [(3, _), (2, _), (0, _), (1, _)] _ _ _ _ _ ⟨(List.forall_mem_cons.mpr ⟨List.mem_cons_self, (List.forall_mem_cons.mpr ⟨(List.mem_cons_of_mem _ List.mem_cons_self), (List.forall_mem_cons.mpr ⟨(List.mem_cons_of_mem _ (List.mem_cons_of_mem _ List.mem_cons_self)), (List.forall_mem_cons.mpr ⟨(List.mem_cons_of_mem _ (List.mem_cons_of_mem _ (List.mem_cons_of_mem _ List.mem_cons_self))), (fun _ h => absurd h List.not_mem_nil)⟩)⟩)⟩)⟩), show ([3, 2, 0, 1] : List Nat).Nodup by decide⟩ (C_plf_loop hS _ 0 0 _ (by omega) rfl)
theorem C_pledge (n : Nat) (f b : Int32) (h : List zC) (u : Nat) {cnt : Int32} (hS : Stc h) (hc : gF h 71 2 = some (.int cnt)) (hc2 : cnt.toInt ≤ 24) : zL zrx zi n 69 0 [(0, .ref 16), (1, .int f), (2, .int b)] [] h u (fun o h2 _ => match o with
  | .inl v => ((iN 4 f ∧ iN cnt.toInt b) ∧ iv h (73 + 4 * b.toNatClampNeg) 2 = 0 ∧ iv h (171 + 3 * f.toNatClampNeg) 3 = -1) ∧ ∃ y : Int32, v = some (.int y) ∧ hPut h h2 (171 + 3 * f.toNatClampNeg) 3 (.int b) ∧ y = pcF (fun k => iv h2 (171 + 3 * k) 3) b 4
  | .inr E => hExt h h2 ∧ ((E = 0 ∧ ¬ (iN 4 f ∧ iN cnt.toInt b)) ∨ (E = 2 ∧ (iN 4 f ∧ iN cnt.toInt b) ∧ ¬ (iv h (73 + 4 * b.toNatClampNeg) 2 = 0 ∧ iv h (171 + 3 * f.toNatClampNeg) 3 = -1)))) := by
  refine zSiload (m := 1) (k := 1) vr_69_0 rfl rfl rfl (fun x3032 e3032 => ?_)
  cases e3032
  refine zSp0 (pc' := 2) (st' := .int (4) :: _) vr_69_1 rfl rfl ?_
  refine zScall vr_69_2 rfl rfl rfl (fun m3034 _ => C_num6 _ _ _ _ (m := 4) (by rfl)) (fun v3034 h3034 u3034 q3034 => ?_) (fun E3034 h3034 u3034 q3034 => ?_)
  · obtain ⟨eh3034, rfl, r1⟩ := q3034
    replace eh3034 := eh3034.symm
    subst eh3034
    show zL zrx zi _ 69 5 [(0, _), (1, _), (2, _)] [] _ _ _
    refine zSiload (m := 1) (k := 2) vr_69_5 rfl rfl rfl (fun x3035 e3035 => ?_)
    cases e3035
    refine zSaload (m := 1) (k := 0) vr_69_6 rfl rfl rfl ?_
    refine zLget vr_69_7 rfl (fun p3037 w3037 e3037 t3037 g3037 => ?_)
    cases e3037
    first | (rw [(st_16_11 hS)] at g3037; cases g3037) | (rw [(st_169_0 hS)] at g3037; cases g3037) | (rw [(st_fac hS (iN4 r1))] at g3037; cases g3037) | (rw [(st_16_10 hS)] at g3037; cases g3037) | (rw [hc] at g3037; cases g3037) | (rw [(st_71_0 hS)] at g3037; cases g3037) | (rw [(st_art hS (n24i r2 hc2))] at g3037; cases g3037) | skip
    refine zLget vr_69_10 rfl (fun p3038 w3038 e3038 t3038 g3038 => ?_)
    cases e3038
    first | (rw [(st_16_11 hS)] at g3038; cases g3038) | (rw [(st_169_0 hS)] at g3038; cases g3038) | (rw [(st_fac hS (iN4 r1))] at g3038; cases g3038) | (rw [(st_16_10 hS)] at g3038; cases g3038) | (rw [hc] at g3038; cases g3038) | (rw [(st_71_0 hS)] at g3038; cases g3038) | (rw [(st_art hS (n24i r2 hc2))] at g3038; cases g3038) | skip
    refine zScall vr_69_13 rfl rfl rfl (fun m3039 _ => C_num6 _ _ _ _ (m := cnt.toInt) rfl) (fun v3039 h3039 u3039 q3039 => ?_) (fun E3039 h3039 u3039 q3039 => ?_)
    · obtain ⟨eh3039, rfl, r2⟩ := q3039
      replace eh3039 := eh3039.symm
      subst eh3039
      show zL zrx zi _ 69 16 [(0, _), (1, _), (2, _)] [] _ _ _
      refine zSaload (m := 1) (k := 0) vr_69_16 rfl rfl rfl ?_
      refine zLget vr_69_17 rfl (fun p3041 w3041 e3041 t3041 g3041 => ?_)
      cases e3041
      first | (rw [(st_16_11 hS)] at g3041; cases g3041) | (rw [(st_169_0 hS)] at g3041; cases g3041) | (rw [(st_fac hS (iN4 r1))] at g3041; cases g3041) | (rw [(st_16_10 hS)] at g3041; cases g3041) | (rw [hc] at g3041; cases g3041) | (rw [(st_71_0 hS)] at g3041; cases g3041) | (rw [(st_art hS (n24i r2 hc2))] at g3041; cases g3041) | skip
      refine zLget vr_69_20 rfl (fun p3042 w3042 e3042 t3042 g3042 => ?_)
      cases e3042
      first | (rw [(st_16_11 hS)] at g3042; cases g3042) | (rw [(st_169_0 hS)] at g3042; cases g3042) | (rw [(st_fac hS (iN4 r1))] at g3042; cases g3042) | (rw [(st_16_10 hS)] at g3042; cases g3042) | (rw [hc] at g3042; cases g3042) | (rw [(st_71_0 hS)] at g3042; cases g3042) | (rw [(st_art hS (n24i r2 hc2))] at g3042; cases g3042) | skip
      refine zSiload (m := 1) (k := 2) vr_69_23 rfl rfl rfl (fun x3043 e3043 => ?_)
      cases e3043
      refine zLaald vr_69_24 rfl (fun p3044 x3044 w3044 e3044 f3044 c3044 t3044 g3044 => ?_)
      cases e3044
      cases f3044
      first | (rw [(st_16_11 hS)] at g3044; cases g3044) | (rw [(st_169_0 hS)] at g3044; cases g3044) | (rw [(st_fac hS (iN4 r1))] at g3044; cases g3044) | (rw [(st_16_10 hS)] at g3044; cases g3044) | (rw [hc] at g3044; cases g3044) | (rw [(st_71_0 hS)] at g3044; cases g3044) | (rw [(st_art hS (n24i r2 hc2))] at g3044; cases g3044) | skip
      refine zLget vr_69_25 rfl (fun p3045 w3045 e3045 t3045 g3045 => ?_)
      cases e3045
      first | (rw [(st_16_11 hS)] at g3045; cases g3045) | (rw [(st_169_0 hS)] at g3045; cases g3045) | (rw [(st_fac hS (iN4 r1))] at g3045; cases g3045) | (rw [(st_16_10 hS)] at g3045; cases g3045) | (rw [hc] at g3045; cases g3045) | (rw [(st_71_0 hS)] at g3045; cases g3045) | (rw [(st_art hS (n24i r2 hc2))] at g3045; cases g3045) | skip
      refine zSb1 (f := fun x => decide (¬ x = 0)) (off := 7) (t := 35) vr_69_28 rfl rfl rfl (fun x3046 e3046 q3046 => ?_) (fun x3046 e3046 q3046 => ?_)
      · cases e3046
        have c3046 := of_decide_eq_true q3046
        refine zSp0 (pc' := 36) (st' := .int (0) :: _) vr_69_35 rfl rfl ?_
        refine zScall vr_69_36 rfl rfl rfl (fun m _ => C_needState _ _ _ _) (fun v h u q => absurd rfl q.2.2) (fun E h3 u q => ?_)
        obtain ⟨rfl, -, q2⟩ := q
        rw [zCat_no vh_69_36_2]
        exact ⟨q2, Or.inr ⟨rfl, ⟨r1, r2⟩, fun z => c3046 ((iv_of g3045).symm.trans z.1)⟩⟩
      · cases e3046
        have c3046 := ndc q3046
        refine zSp0 (pc' := 32) (st' := .int (1) :: _) vr_69_31 rfl rfl ?_
        refine zSgo (t := 36) vr_69_32 rfl rfl ?_
        refine zScall vr_69_36 rfl rfl rfl (fun m3049 _ => C_needState _ _ _ _) (fun v3049 h3049 u3049 q3049 => ?_) (fun E3049 h3049 u3049 q3049 => ?_)
        · obtain ⟨eh3049, rfl, -⟩ := q3049
          replace eh3049 := eh3049.symm
          subst eh3049
          show zL zrx zi _ 69 39 [(0, _), (1, _), (2, _)] [] _ _ _
          refine zSaload (m := 1) (k := 0) vr_69_39 rfl rfl rfl ?_
          refine zLget vr_69_40 rfl (fun p3051 w3051 e3051 t3051 g3051 => ?_)
          cases e3051
          first | (rw [(st_16_11 hS)] at g3051; cases g3051) | (rw [(st_169_0 hS)] at g3051; cases g3051) | (rw [(st_fac hS (iN4 r1))] at g3051; cases g3051) | (rw [(st_16_10 hS)] at g3051; cases g3051) | (rw [hc] at g3051; cases g3051) | (rw [(st_71_0 hS)] at g3051; cases g3051) | (rw [(st_art hS (n24i r2 hc2))] at g3051; cases g3051) | skip
          refine zLget vr_69_43 rfl (fun p3052 w3052 e3052 t3052 g3052 => ?_)
          cases e3052
          first | (rw [(st_16_11 hS)] at g3052; cases g3052) | (rw [(st_169_0 hS)] at g3052; cases g3052) | (rw [(st_fac hS (iN4 r1))] at g3052; cases g3052) | (rw [(st_16_10 hS)] at g3052; cases g3052) | (rw [hc] at g3052; cases g3052) | (rw [(st_71_0 hS)] at g3052; cases g3052) | (rw [(st_art hS (n24i r2 hc2))] at g3052; cases g3052) | skip
          refine zSiload (m := 1) (k := 1) vr_69_46 rfl rfl rfl (fun x3053 e3053 => ?_)
          cases e3053
          refine zLaald vr_69_47 rfl (fun p3054 x3054 w3054 e3054 f3054 c3054 t3054 g3054 => ?_)
          cases e3054
          cases f3054
          first | (rw [(st_16_11 hS)] at g3054; cases g3054) | (rw [(st_169_0 hS)] at g3054; cases g3054) | (rw [(st_fac hS (iN4 r1))] at g3054; cases g3054) | (rw [(st_16_10 hS)] at g3054; cases g3054) | (rw [hc] at g3054; cases g3054) | (rw [(st_71_0 hS)] at g3054; cases g3054) | (rw [(st_art hS (n24i r2 hc2))] at g3054; cases g3054) | skip
          refine zLget vr_69_48 rfl (fun p3055 w3055 e3055 t3055 g3055 => ?_)
          cases e3055
          first | (rw [(st_16_11 hS)] at g3055; cases g3055) | (rw [(st_169_0 hS)] at g3055; cases g3055) | (rw [(st_fac hS (iN4 r1))] at g3055; cases g3055) | (rw [(st_16_10 hS)] at g3055; cases g3055) | (rw [hc] at g3055; cases g3055) | (rw [(st_71_0 hS)] at g3055; cases g3055) | (rw [(st_art hS (n24i r2 hc2))] at g3055; cases g3055) | skip
          refine zSp0 (pc' := 52) (st' := .int (-1) :: _) vr_69_51 rfl rfl ?_
          refine zSb2 (f := fun x y => decide (¬ x = y)) (off := 7) (t := 59) vr_69_52 rfl rfl rfl (fun x3057 y3057 e3057 f3057 q3057 => ?_) (fun x3057 y3057 e3057 f3057 q3057 => ?_)
          · cases e3057
            cases f3057
            have c3057 := of_decide_eq_true q3057
            refine zSp0 (pc' := 60) (st' := .int (0) :: _) vr_69_59 rfl rfl ?_
            refine zScall vr_69_60 rfl rfl rfl (fun m _ => C_needState _ _ _ _) (fun v h u q => absurd rfl q.2.2) (fun E h3 u q => ?_)
            obtain ⟨rfl, -, q2⟩ := q
            rw [zCat_no vh_69_60_2]
            exact ⟨q2, Or.inr ⟨rfl, ⟨r1, r2⟩, fun z => c3057 ((iv_of g3055).symm.trans z.2)⟩⟩
          · cases e3057
            cases f3057
            have c3057 := ndc q3057
            refine zSp0 (pc' := 56) (st' := .int (1) :: _) vr_69_55 rfl rfl ?_
            refine zSgo (t := 60) vr_69_56 rfl rfl ?_
            refine zScall vr_69_60 rfl rfl rfl (fun m3060 _ => C_needState _ _ _ _) (fun v3060 h3060 u3060 q3060 => ?_) (fun E3060 h3060 u3060 q3060 => ?_)
            · obtain ⟨eh3060, rfl, -⟩ := q3060
              replace eh3060 := eh3060.symm
              subst eh3060
              show zL zrx zi _ 69 63 [(0, _), (1, _), (2, _)] [] _ _ _
              refine zSaload (m := 1) (k := 0) vr_69_63 rfl rfl rfl ?_
              refine zLget vr_69_64 rfl (fun p3062 w3062 e3062 t3062 g3062 => ?_)
              cases e3062
              first | (rw [(st_16_11 hS)] at g3062; cases g3062) | (rw [(st_169_0 hS)] at g3062; cases g3062) | (rw [(st_fac hS (iN4 r1))] at g3062; cases g3062) | (rw [(st_16_10 hS)] at g3062; cases g3062) | (rw [hc] at g3062; cases g3062) | (rw [(st_71_0 hS)] at g3062; cases g3062) | (rw [(st_art hS (n24i r2 hc2))] at g3062; cases g3062) | skip
              refine zLget vr_69_67 rfl (fun p3063 w3063 e3063 t3063 g3063 => ?_)
              cases e3063
              first | (rw [(st_16_11 hS)] at g3063; cases g3063) | (rw [(st_169_0 hS)] at g3063; cases g3063) | (rw [(st_fac hS (iN4 r1))] at g3063; cases g3063) | (rw [(st_16_10 hS)] at g3063; cases g3063) | (rw [hc] at g3063; cases g3063) | (rw [(st_71_0 hS)] at g3063; cases g3063) | (rw [(st_art hS (n24i r2 hc2))] at g3063; cases g3063) | skip
              refine zSiload (m := 1) (k := 1) vr_69_70 rfl rfl rfl (fun x3064 e3064 => ?_)
              cases e3064
              refine zLaald vr_69_71 rfl (fun p3065 x3065 w3065 e3065 f3065 c3065 t3065 g3065 => ?_)
              cases e3065
              cases f3065
              first | (rw [(st_16_11 hS)] at g3065; cases g3065) | (rw [(st_169_0 hS)] at g3065; cases g3065) | (rw [(st_fac hS (iN4 r1))] at g3065; cases g3065) | (rw [(st_16_10 hS)] at g3065; cases g3065) | (rw [hc] at g3065; cases g3065) | (rw [(st_71_0 hS)] at g3065; cases g3065) | (rw [(st_art hS (n24i r2 hc2))] at g3065; cases g3065) | skip
              refine zSiload (m := 1) (k := 2) vr_69_72 rfl rfl rfl (fun x3066 e3066 => ?_)
              cases e3066
              refine zLput vr_69_73 rfl (fun p3067 k3067 e3067 t3067 g3067 => ?_)
              cases e3067
              have hS2 := hS.put g3067 (fac_st (Or.inr rfl))
              refine zSaload (m := 1) (k := 0) vr_69_76 rfl rfl rfl ?_
              refine zLget vr_69_77 rfl (fun p3069 w3069 e3069 t3069 g3069 => ?_)
              cases e3069
              first | (rw [(st_16_11 hS2)] at g3069; cases g3069) | skip
              refine zSiload (m := 1) (k := 2) vr_69_80 rfl rfl rfl (fun x3070 e3070 => ?_)
              cases e3070
              refine zScall vr_69_81 rfl rfl rfl (fun m3071 _ => C_plf _ _ _ _ hS2) (fun v3071 h3071 u3071 q3071 => ?_) (fun E3071 h3071 u3071 q3071 => ?_)
              · obtain ⟨eh3071, z3071⟩ := q3071
                replace eh3071 := eh3071.symm
                subst eh3071
                cases z3071
                show zL zrx zi _ 69 84 [(0, _), (1, _), (2, _)] [_] _ _ _
                refine zLiret vr_69_84 rfl (fun x3072 e3072 => ?_)
                cases e3072
                exact ⟨⟨⟨r1, r2⟩, (iv_of g3045).trans (Decidable.not_not.mp c3046), (iv_of g3055).trans (Decidable.not_not.mp c3057)⟩, _, rfl, g3067, rfl⟩
              · obtain ⟨-, z⟩ := q3071
                cases z
            · obtain ⟨-, z, -⟩ := q3060
              exact absurd z (by decide)
        · obtain ⟨-, z, -⟩ := q3049
          exact absurd z (by decide)
    · obtain ⟨rfl, q1, q2⟩ := q3039
      rw [zCat_no vh_69_13_0]
      exact ⟨q2, Or.inl ⟨rfl, fun z => q1 z.2⟩⟩
  · obtain ⟨rfl, q1, q2⟩ := q3034
    rw [zCat_no vh_69_2_0]
    exact ⟨q2, Or.inl ⟨rfl, fun z => q1 z.1⟩⟩
abbrev Q_Lpledge (cnt : Int32) (f b : Int32) (h : List zC) : zK := fun o h2 _ => ∃ k : Int32, o = .inl (some (.int k)) ∧
  ((k = 0 ∧ ((iN 4 f ∧ iN cnt.toInt b) ∧ iv h (73 + 4 * b.toNatClampNeg) 2 = 0 ∧ iv h (171 + 3 * f.toNatClampNeg) 3 = -1) ∧ ∃ (h1 : List zC) (y : Int32), hPut h h1 (171 + 3 * f.toNatClampNeg) 3 (.int b) ∧ y = pcF (fun k => iv h1 (171 + 3 * k) 3) b 4 ∧ hPut h1 h2 238 0 (.long y.toInt64)) ∨ (k = 1 ∧ ¬ (iN 4 f ∧ iN cnt.toInt b) ∧ hExt h h2) ∨ (k = 2 ∧ (iN 4 f ∧ iN cnt.toInt b) ∧ ¬ (iv h (73 + 4 * b.toNatClampNeg) 2 = 0 ∧ iv h (171 + 3 * f.toNatClampNeg) 3 = -1) ∧ hExt h h2))
theorem C_Lpledge (n : Nat) (f b : Int32) (h : List zC) (u : Nat) {cnt : Int32} (hS : Stc h) (hc : gF h 71 2 = some (.int cnt)) (hc2 : cnt.toInt ≤ 24) : zL zrx zi n 220 0 [(0, .ref 16), (1, .int f), (2, .int b), (3, .ref 238)] [] h u (Q_Lpledge cnt f b h) := by
  refine zSaload (m := 1) (k := 3) vr_220_0 rfl rfl rfl ?_
  refine zSaload (m := 1) (k := 0) vr_220_1 rfl rfl rfl ?_
  refine zSiload (m := 1) (k := 1) vr_220_2 rfl rfl rfl (fun x3075 e3075 => ?_)
  cases e3075
  refine zSiload (m := 1) (k := 2) vr_220_3 rfl rfl rfl (fun x3076 e3076 => ?_)
  cases e3076
  refine zScall vr_220_4 rfl rfl rfl (fun m3077 _ => C_pledge _ _ _ _ _ hS hc hc2) (fun v3077 h3077 u3077 q3077 => ?_) (fun E3077 h3077 u3077 q3077 => ?_)
  · obtain ⟨k1, y3077, rfl, k2, k3⟩ := q3077
    show zL zrx zi _ 220 7 [(0, _), (1, _), (2, _), (3, _)] [_, _] _ _ _
    refine zS1 (f := fun x => .long x.toInt64) vr_220_7 rfl rfl (fun x3078 e3078 => ?_)
    cases e3078
    refine zLput vr_220_8 rfl (fun p3079 k3079 e3079 t3079 g3079 => ?_)
    cases e3079
    have gP := g3079
    refine zSgo (t := 22) vr_220_11 rfl rfl ?_
    refine zSp0 (pc' := 23) (st' := .int (0) :: _) vr_220_22 rfl rfl ?_
    refine zLiret vr_220_23 rfl (fun x3082 e3082 => ?_)
    cases e3082
    exact ⟨_, rfl, Or.inl ⟨rfl, k1, _, _, k2, k3, gP⟩⟩
  · obtain ⟨q1, ⟨rfl, z⟩ | ⟨rfl, z⟩⟩ := q3077
    · rw [zCat_hit (k := 4) (m := 2) vh_220_4_0 vr_220_14 rfl (by decide)]
      show zL zrx zi _ 220 16 [(0, _), (1, _), (2, _), (3, _)] [] _ _ _
      refine zSp0 (pc' := 17) (st' := .int (1) :: _) vr_220_16 rfl rfl ?_
      refine zLiret vr_220_17 rfl (fun x3084 e3084 => ?_)
      cases e3084
      exact ⟨_, rfl, Or.inr (Or.inl ⟨rfl, z, q1⟩)⟩
    · rw [zCat_hit (k := 4) (m := 2) vh_220_4_2 vr_220_18 rfl (by decide)]
      show zL zrx zi _ 220 20 [(0, _), (1, _), (2, _), (3, _)] [] _ _ _
      refine zSp0 (pc' := 21) (st' := .int (2) :: _) vr_220_20 rfl rfl ?_
      refine zLiret vr_220_21 rfl (fun x3086 e3086 => ?_)
      cases e3086
      exact ⟨_, rfl, Or.inr (Or.inr ⟨rfl, z.1, z.2, q1⟩)⟩
set_option maxRecDepth 20000 in
theorem C_rel_loop {h : List zC} {A C : Nat} {mv : Int32} (hS : Stc h) (hA : A < 169) : ∀ (n k : Nat) (w : Value) (hk : List zC) (u : Nat), k ≤ 4 → rLC mv.toNatClampNeg h hk (iv h A 0) k → zL zrx zi n 53 10 [(3, .int (Int32.ofNat k)), (2, .int mv), (0, .ref 169), (1, .ref A), (4, w)] [] hk u (fun o h2 _ => o = .inl none ∧ rLC mv.toNatClampNeg h h2 (iv h A 0) 4)
  | 0, _, _, _, _ => fun _ _ => trivial
  | n + 1, k, w, hk, u => fun k4 r => by
    have kk := (toNat_ofNat (m := k) (by omega))
    have z4 : (4 : Int32).toInt = 4 := rfl
    have hS2 : Stc hk := r.stc hS (fun f hf => fac_st (Or.inr rfl)) (fun f hf => row_st (Or.inl (by omega)))
    refine zLp vr_53_10 rfl rfl ?_
    refine zSp0 (pc' := 12) (st' := .int (4) :: _) vr_53_11 rfl rfl ?_
    refine zSb2 (f := fun x y => decide (y ≤ x)) (off := 56) (t := 68) vr_53_12 rfl rfl rfl (fun x3088 y3088 e3088 f3088 q3088 => ?_) (fun x3088 y3088 e3088 f3088 q3088 => ?_)
    · cases e3088
      cases f3088
      have c3088 := of_decide_eq_true q3088
      refine zSvoid vr_53_68 rfl ?_
      have e : k = 4 := by
        have y := c3088
        rw [i32_le, kk.2, z4] at y
        omega
      subst e
      exact ⟨rfl, r⟩
    · cases e3088
      cases f3088
      have c3088 := ndc q3088
      have k4 : k < 4 := by
        have y := c3088
        rw [i32_le, kk.2, z4] at y
        omega
      have hI : gF hk 170 (Int32.ofNat k).toNatClampNeg = some (.ref (171 + 3 * k)) := by
        rw [kk.1]
        exact st_fac hS2 k4
      have p0 : gF hk (171 + 3 * k) 3 = gF h (171 + 3 * k) 3 := r.2.2.1 _ _ (fun f hf _ => ⟨by dsimp only; omega, by dsimp only; omega⟩)
      have a0 : gF hk A 0 = gF h A 0 := r.2.2.1 _ _ (fun f hf _ => ⟨by dsimp only; omega, by dsimp only; omega⟩)
      have m0 : gF hk (172 + 3 * k) mv.toNatClampNeg = gF h (172 + 3 * k) mv.toNatClampNeg := r.2.2.1 _ _ (fun f hf _ => ⟨by dsimp only; omega, by dsimp only; omega⟩)
      refine zSaload (m := 1) (k := 0) vr_53_15 rfl rfl rfl ?_
      refine zLget vr_53_16 rfl (fun p3091 w3091 e3091 t3091 g3091 => ?_)
      cases e3091
      first | (rw [(st_169_0 hS2)] at g3091; cases g3091) | (rw [hI] at g3091; cases g3091) | (rw [(st_fm hS2 k4)] at g3091; cases g3091) | (rw [(st_fm hS3 k4)] at g3091; cases g3091) | skip
      refine zSiload (m := 1) (k := 3) vr_53_19 rfl rfl rfl (fun x3092 e3092 => ?_)
      cases e3092
      refine zLaald vr_53_20 rfl (fun p3093 x3093 w3093 e3093 f3093 c3093 t3093 g3093 => ?_)
      cases e3093
      cases f3093
      first | (rw [(st_169_0 hS2)] at g3093; cases g3093) | (rw [hI] at g3093; cases g3093) | (rw [(st_fm hS2 k4)] at g3093; cases g3093) | (rw [(st_fm hS3 k4)] at g3093; cases g3093) | skip
      refine zSastore (m := 2) (k := 4) vr_53_21 rfl rfl ?_
      show zL zrx zi _ 53 23 [(4, _), (3, _), (2, _), (0, _), (1, _)] [] _ _ _
      refine zSaload (m := 2) (k := 4) vr_53_23 rfl rfl rfl ?_
      refine zLget vr_53_25 rfl (fun p3096 w3096 e3096 t3096 g3096 => ?_)
      cases e3096
      first | (rw [(st_169_0 hS2)] at g3096; cases g3096) | (rw [hI] at g3096; cases g3096) | (rw [(st_fm hS2 k4)] at g3096; cases g3096) | (rw [(st_fm hS3 k4)] at g3096; cases g3096) | skip
      refine zSaload (m := 1) (k := 1) vr_53_28 rfl rfl rfl ?_
      refine zLget vr_53_29 rfl (fun p3098 w3098 e3098 t3098 g3098 => ?_)
      cases e3098
      first | (rw [(st_169_0 hS2)] at g3098; cases g3098) | (rw [hI] at g3098; cases g3098) | (rw [(st_fm hS2 k4)] at g3098; cases g3098) | (rw [(st_fm hS3 k4)] at g3098; cases g3098) | skip
      refine zSb2 (f := fun x y => decide (¬ x = y)) (off := 30) (t := 62) vr_53_32 rfl rfl rfl (fun x3099 y3099 e3099 f3099 q3099 => ?_) (fun x3099 y3099 e3099 f3099 q3099 => ?_)
      · cases e3099
        cases f3099
        have c3099 := of_decide_eq_true q3099
        refine zSiinc vr_53_62 rfl rfl (fun x3100 e3100 => ?_)
        cases e3100
        show zL zrx zi _ 53 65 [(3, _), (4, _), (2, _), (0, _), (1, _)] [] _ _ _
        refine zSgo (t := 10) vr_53_65 rfl rfl ?_
        rw [ofNat_succ]
        have hn : ¬ iv h (171 + 3 * k) 3 = iv h A 0 := fun z => c3099 (by
          rw [← iv_of (p0.symm.trans g3096), ← iv_of (a0.symm.trans g3098)]
          exact z)
        exact zL_pm _ _ _ [(3, _), (2, _), (0, _), (1, _), (4, _)] _ _ _ _ _ ⟨(List.forall_mem_cons.mpr ⟨List.mem_cons_self, (List.forall_mem_cons.mpr ⟨(List.mem_cons_of_mem _ (List.mem_cons_of_mem _ (List.mem_cons_of_mem _ (List.mem_cons_of_mem _ List.mem_cons_self)))), (List.forall_mem_cons.mpr ⟨(List.mem_cons_of_mem _ List.mem_cons_self), (List.forall_mem_cons.mpr ⟨(List.mem_cons_of_mem _ (List.mem_cons_of_mem _ List.mem_cons_self)), (List.forall_mem_cons.mpr ⟨(List.mem_cons_of_mem _ (List.mem_cons_of_mem _ (List.mem_cons_of_mem _ List.mem_cons_self))), (fun _ h => absurd h List.not_mem_nil)⟩)⟩)⟩)⟩)⟩), show ([3, 2, 0, 1, 4] : List Nat).Nodup by decide⟩ (C_rel_loop (C := C) hS hA n (k + 1) _ _ _ (by omega) (r.skip hn))
      · cases e3099
        cases f3099
        have c3099 := ndc q3099
        refine zSaload (m := 2) (k := 4) vr_53_35 rfl rfl rfl ?_
        refine zSp0 (pc' := 38) (st' := .int (-1) :: _) vr_53_37 rfl rfl ?_
        refine zLput vr_53_38 rfl (fun p3104 k3104 e3104 t3104 g3104 => ?_)
        cases e3104
        have hS3 := hS2.put g3104 (fac_st (Or.inr rfl))
        refine zSaload (m := 2) (k := 4) vr_53_41 rfl rfl rfl ?_
        refine zLget vr_53_43 rfl (fun p3106 w3106 e3106 t3106 g3106 => ?_)
        cases e3106
        first | (rw [(st_169_0 hS2)] at g3106; cases g3106) | (rw [hI] at g3106; cases g3106) | (rw [(st_fm hS2 k4)] at g3106; cases g3106) | (rw [(st_fm hS3 k4)] at g3106; cases g3106) | skip
        refine zSiload (m := 1) (k := 2) vr_53_46 rfl rfl rfl (fun x3107 e3107 => ?_)
        cases e3107
        refine zSaload (m := 2) (k := 4) vr_53_47 rfl rfl rfl ?_
        refine zLget vr_53_49 rfl (fun p3109 w3109 e3109 t3109 g3109 => ?_)
        cases e3109
        first | (rw [(st_169_0 hS2)] at g3109; cases g3109) | (rw [hI] at g3109; cases g3109) | (rw [(st_fm hS2 k4)] at g3109; cases g3109) | (rw [(st_fm hS3 k4)] at g3109; cases g3109) | skip
        refine zSiload (m := 1) (k := 2) vr_53_52 rfl rfl rfl (fun x3110 e3110 => ?_)
        cases e3110
        refine zLiald vr_53_53 rfl (fun p3111 x3111 w3111 e3111 f3111 c3111 t3111 g3111 => ?_)
        cases e3111
        cases f3111
        first | (rw [(st_169_0 hS2)] at g3111; cases g3111) | (rw [hI] at g3111; cases g3111) | (rw [(st_fm hS2 k4)] at g3111; cases g3111) | (rw [(st_fm hS3 k4)] at g3111; cases g3111) | skip
        refine zSp0 (pc' := 55) (st' := .int (1) :: _) vr_53_54 rfl rfl ?_
        refine zS2 (f := fun x y => .int (x - y)) vr_53_55 rfl rfl (fun x3113 y3113 e3113 f3113 => ?_)
        cases e3113
        cases f3113
        refine zSp0 (pc' := 58) (st' := .int (-5) :: _) vr_53_56 rfl rfl ?_
        refine zScall vr_53_58 rfl rfl rfl (fun m3115 _ => C_mxI _ _ _ _ _) (fun v3115 h3115 u3115 q3115 => ?_) (fun E3115 h3115 u3115 q3115 => ?_)
        · obtain ⟨eh3115, z3115⟩ := q3115
          subst eh3115
          cases z3115
          show zL zrx zi _ 53 61 [(4, _), (3, _), (2, _), (0, _), (1, _)] [_, _, _] _ _ _
          refine zLiast vr_53_61 rfl (fun p3116 x3116 z3116 k3116 e3116 f3116 d3116 c3116 t3116 g3116 => ?_)
          cases e3116
          cases f3116
          cases d3116
          refine zSiinc vr_53_62 rfl rfl (fun x3117 e3117 => ?_)
          cases e3117
          show zL zrx zi _ 53 65 [(3, _), (4, _), (2, _), (0, _), (1, _)] [] _ _ _
          refine zSgo (t := 10) vr_53_65 rfl rfl ?_
          rw [ofNat_succ]
          have e1 := iv_of (p0.symm.trans g3096)
          have e2 := iv_of (a0.symm.trans g3098)
          have e3 : iv h (171 + 3 * k) 3 = iv h A 0 := by
            rw [e1, e2]
            exact Decidable.not_not.mp c3099
          have g53 := g3111
          rw [g3104.2.1, if_neg (by omega), m0] at g53
          refine zL_pm _ _ _ [(3, _), (2, _), (0, _), (1, _), (4, _)] _ _ _ _ _ ⟨(List.forall_mem_cons.mpr ⟨List.mem_cons_self, (List.forall_mem_cons.mpr ⟨(List.mem_cons_of_mem _ (List.mem_cons_of_mem _ (List.mem_cons_of_mem _ (List.mem_cons_of_mem _ List.mem_cons_self)))), (List.forall_mem_cons.mpr ⟨(List.mem_cons_of_mem _ List.mem_cons_self), (List.forall_mem_cons.mpr ⟨(List.mem_cons_of_mem _ (List.mem_cons_of_mem _ List.mem_cons_self)), (List.forall_mem_cons.mpr ⟨(List.mem_cons_of_mem _ (List.mem_cons_of_mem _ (List.mem_cons_of_mem _ List.mem_cons_self))), (fun _ h => absurd h List.not_mem_nil)⟩)⟩)⟩)⟩)⟩), show ([3, 2, 0, 1, 4] : List Nat).Nodup by decide⟩ (C_rel_loop (C := C) hS hA n (k + 1) _ _ _ (by omega) (r.step e3 g3104 g3116 ?_ (fun f hf => by omega) (fun f g hf hg => by omega) (fun f hf => by omega)))
          rw [iv_of g53]
        · obtain ⟨-, z⟩ := q3115
          cases z
theorem C_rel (n : Nat)  (h : List zC) (u : Nat) {A C : Nat} (hS : Stc h) (hA : A < 169) (hC : gF h A 1 = some (.ref C)) : zL zrx zi n 53 0 [(0, .ref 169), (1, .ref A)] [] h u (fun o h2 _ => o = .inl none ∧ rLC (iv h C 0).toNatClampNeg h h2 (iv h A 0) 4) := by
  refine zSaload (m := 1) (k := 1) vr_53_0 rfl rfl rfl ?_
  refine zLget vr_53_1 rfl (fun p3120 w3120 e3120 t3120 g3120 => ?_)
  cases e3120
  first | (rw [hC] at g3120; cases g3120) | skip
  refine zLget vr_53_4 rfl (fun p3121 w3121 e3121 t3121 g3121 => ?_)
  cases e3121
  first | (rw [hC] at g3121; cases g3121) | skip
  refine zSistore (m := 1) (k := 2) vr_53_7 rfl rfl (fun x3122 e3122 => ?_)
  cases e3122
  show zL zrx zi _ 53 8 [(2, _), (0, _), (1, _)] [] _ _ _
  refine zSp0 (pc' := 9) (st' := .int (0) :: _) vr_53_8 rfl rfl ?_
  refine zSistore (m := 1) (k := 3) vr_53_9 rfl rfl (fun x3124 e3124 => ?_)
  cases e3124
  show zL zrx zi _ 53 10 [(3, _), (2, _), (0, _), (1, _)] [] _ _ _
  have e : iv h C 0 = _ := iv_of g3121
  rw [e]
  exact zL_pm _ _ _ [(3, _), (2, _), (0, _), (1, _), (4, _)] _ _ _ _ _ ⟨(List.forall_mem_cons.mpr ⟨List.mem_cons_self, (List.forall_mem_cons.mpr ⟨(List.mem_cons_of_mem _ List.mem_cons_self), (List.forall_mem_cons.mpr ⟨(List.mem_cons_of_mem _ (List.mem_cons_of_mem _ List.mem_cons_self)), (List.forall_mem_cons.mpr ⟨(List.mem_cons_of_mem _ (List.mem_cons_of_mem _ (List.mem_cons_of_mem _ List.mem_cons_self))), (fun _ h => absurd h List.not_mem_nil)⟩)⟩)⟩)⟩), show ([3, 2, 0, 1, 4] : List Nat).Nodup by decide⟩ (C_rel_loop (C := C) hS hA _ 0 .null _ _ (by omega) rLs.refl)
theorem C_vote (n : Nat) (b : Int32) (h : List zC) (u : Nat) {cnt : Int32} (hS : Stc h) (hc : gF h 71 2 = some (.int cnt)) (hc2 : cnt.toInt ≤ 24) (hCl : ∀ k, k < cnt.toNatClampNeg → ∃ C : Nat, gF h (73 + 4 * k) 1 = some (.ref C) ∧ 239 ≤ C) : zL zrx zi n 70 0 [(0, .ref 16), (1, .int b)] [] h u (fun o h2 _ => match o with
  | .inl v => (iN cnt.toInt b ∧ iv h (73 + 4 * b.toNatClampNeg) 2 = 0) ∧ ∃ (y : Int32) (C : Nat) (h1 : List zC), v = some (.int y) ∧ gF h (73 + 4 * b.toNatClampNeg) 1 = some (.ref C) ∧ y = hcF (fun i => bCs (fun f => iv h (173 + 3 * f) i) (fun f => sideC 0 (iv h (171 + 3 * f) 3) (iv h (73 + 4 * b.toNatClampNeg) 0) (lkC h f C)) 4) 3 ∧ ((2 ≤ y ∧ ∃ h0 : List zC, hPut h h0 (73 + 4 * b.toNatClampNeg) 2 (.int 1) ∧ hPut h0 h1 (73 + 4 * b.toNatClampNeg) 3 (.int (iv h 16 0 + 30))) ∨ (¬ 2 ≤ y ∧ hPut h h1 (73 + 4 * b.toNatClampNeg) 2 (.int 3))) ∧ rLC (iv h1 C 0).toNatClampNeg h1 h2 (iv h1 (73 + 4 * b.toNatClampNeg) 0) 4
  | .inr E => hExt h h2 ∧ ((E = 0 ∧ ¬ iN cnt.toInt b) ∨ (E = 2 ∧ iN cnt.toInt b ∧ ¬ iv h (73 + 4 * b.toNatClampNeg) 2 = 0))) := by
  refine zSiload (m := 1) (k := 1) vr_70_0 rfl rfl rfl (fun x3125 e3125 => ?_)
  cases e3125
  refine zSaload (m := 1) (k := 0) vr_70_1 rfl rfl rfl ?_
  refine zLget vr_70_2 rfl (fun p3127 w3127 e3127 t3127 g3127 => ?_)
  cases e3127
  first | (rw [hc] at g3127; cases g3127) | (rw [(st_16_10 hS)] at g3127; cases g3127) | (rw [(st_71_0 hS)] at g3127; cases g3127) | (rw [(st_art hS n24)] at g3127; cases g3127) | (rw [(st_16_11 hS)] at g3127; cases g3127) | (rw [f11] at g3127; cases g3127) | skip
  refine zLget vr_70_5 rfl (fun p3128 w3128 e3128 t3128 g3128 => ?_)
  cases e3128
  first | (rw [hc] at g3128; cases g3128) | (rw [(st_16_10 hS)] at g3128; cases g3128) | (rw [(st_71_0 hS)] at g3128; cases g3128) | (rw [(st_art hS n24)] at g3128; cases g3128) | (rw [(st_16_11 hS)] at g3128; cases g3128) | (rw [f11] at g3128; cases g3128) | skip
  refine zScall vr_70_8 rfl rfl rfl (fun m3129 _ => C_num6 _ _ _ _ (m := cnt.toInt) rfl) (fun v3129 h3129 u3129 q3129 => ?_) (fun E3129 h3129 u3129 q3129 => ?_)
  · obtain ⟨eh3129, rfl, r1⟩ := q3129
    replace eh3129 := eh3129.symm
    subst eh3129
    show zL zrx zi _ 70 11 [(0, _), (1, _)] [] _ _ _
    have n24 := n24i r1 hc2
    obtain ⟨C, hC, lC⟩ := hCl b.toNatClampNeg (by
      obtain ⟨a1, a2⟩ := r1
      show b.toInt.toNat < cnt.toInt.toNat
      omega)
    refine zSaload (m := 1) (k := 0) vr_70_11 rfl rfl rfl ?_
    refine zLget vr_70_12 rfl (fun p3131 w3131 e3131 t3131 g3131 => ?_)
    cases e3131
    first | (rw [hc] at g3131; cases g3131) | (rw [(st_16_10 hS)] at g3131; cases g3131) | (rw [(st_71_0 hS)] at g3131; cases g3131) | (rw [(st_art hS n24)] at g3131; cases g3131) | (rw [(st_16_11 hS)] at g3131; cases g3131) | (rw [f11] at g3131; cases g3131) | skip
    refine zLget vr_70_15 rfl (fun p3132 w3132 e3132 t3132 g3132 => ?_)
    cases e3132
    first | (rw [hc] at g3132; cases g3132) | (rw [(st_16_10 hS)] at g3132; cases g3132) | (rw [(st_71_0 hS)] at g3132; cases g3132) | (rw [(st_art hS n24)] at g3132; cases g3132) | (rw [(st_16_11 hS)] at g3132; cases g3132) | (rw [f11] at g3132; cases g3132) | skip
    refine zSiload (m := 1) (k := 1) vr_70_18 rfl rfl rfl (fun x3133 e3133 => ?_)
    cases e3133
    refine zLaald vr_70_19 rfl (fun p3134 x3134 w3134 e3134 f3134 c3134 t3134 g3134 => ?_)
    cases e3134
    cases f3134
    first | (rw [hc] at g3134; cases g3134) | (rw [(st_16_10 hS)] at g3134; cases g3134) | (rw [(st_71_0 hS)] at g3134; cases g3134) | (rw [(st_art hS n24)] at g3134; cases g3134) | (rw [(st_16_11 hS)] at g3134; cases g3134) | (rw [f11] at g3134; cases g3134) | skip
    refine zSastore (m := 1) (k := 2) vr_70_20 rfl rfl ?_
    show zL zrx zi _ 70 21 [(2, _), (0, _), (1, _)] [] _ _ _
    refine zSaload (m := 1) (k := 2) vr_70_21 rfl rfl rfl ?_
    refine zLget vr_70_22 rfl (fun p3137 w3137 e3137 t3137 g3137 => ?_)
    cases e3137
    first | (rw [hc] at g3137; cases g3137) | (rw [(st_16_10 hS)] at g3137; cases g3137) | (rw [(st_71_0 hS)] at g3137; cases g3137) | (rw [(st_art hS n24)] at g3137; cases g3137) | (rw [(st_16_11 hS)] at g3137; cases g3137) | (rw [f11] at g3137; cases g3137) | skip
    refine zSb1 (f := fun x => decide (¬ x = 0)) (off := 7) (t := 32) vr_70_25 rfl rfl rfl (fun x3138 e3138 q3138 => ?_) (fun x3138 e3138 q3138 => ?_)
    · cases e3138
      have c3138 := of_decide_eq_true q3138
      refine zSp0 (pc' := 33) (st' := .int (0) :: _) vr_70_32 rfl rfl ?_
      refine zScall vr_70_33 rfl rfl rfl (fun m _ => C_needState _ _ _ _) (fun v h u q => absurd rfl q.2.2) (fun E h3 u q => ?_)
      obtain ⟨rfl, -, q2⟩ := q
      rw [zCat_no vh_70_33_2]
      exact ⟨q2, Or.inr ⟨rfl, r1, fun z => c3138 ((iv_of g3137).symm.trans z)⟩⟩
    · cases e3138
      have c3138 := ndc q3138
      refine zSp0 (pc' := 29) (st' := .int (1) :: _) vr_70_28 rfl rfl ?_
      refine zSgo (t := 33) vr_70_29 rfl rfl ?_
      refine zScall vr_70_33 rfl rfl rfl (fun m3141 _ => C_needState _ _ _ _) (fun v3141 h3141 u3141 q3141 => ?_) (fun E3141 h3141 u3141 q3141 => ?_)
      · obtain ⟨eh3141, rfl, -⟩ := q3141
        replace eh3141 := eh3141.symm
        subst eh3141
        show zL zrx zi _ 70 36 [(2, _), (0, _), (1, _)] [] _ _ _
        refine zSaload (m := 1) (k := 0) vr_70_36 rfl rfl rfl ?_
        refine zLget vr_70_37 rfl (fun p3143 w3143 e3143 t3143 g3143 => ?_)
        cases e3143
        first | (rw [hc] at g3143; cases g3143) | (rw [(st_16_10 hS)] at g3143; cases g3143) | (rw [(st_71_0 hS)] at g3143; cases g3143) | (rw [(st_art hS n24)] at g3143; cases g3143) | (rw [(st_16_11 hS)] at g3143; cases g3143) | (rw [f11] at g3143; cases g3143) | skip
        refine zSaload (m := 1) (k := 2) vr_70_40 rfl rfl rfl ?_
        refine zSp0 (pc' := 42) (st' := .int (0) :: _) vr_70_41 rfl rfl ?_
        refine zScall vr_70_42 rfl rfl rfl (fun m3146 _ => C_inF _ _ _ _ hS hC) (fun v3146 h3146 u3146 q3146 => ?_) (fun E3146 h3146 u3146 q3146 => ?_)
        · obtain ⟨eh3146, z3146⟩ := q3146
          replace eh3146 := eh3146.symm
          subst eh3146
          cases z3146
          show zL zrx zi _ 70 45 [(2, _), (0, _), (1, _)] [_] _ _ _
          refine zSistore (m := 1) (k := 3) vr_70_45 rfl rfl (fun x3147 e3147 => ?_)
          cases e3147
          show zL zrx zi _ 70 46 [(3, _), (2, _), (0, _), (1, _)] [] _ _ _
          refine zSiload (m := 1) (k := 3) vr_70_46 rfl rfl rfl (fun x3148 e3148 => ?_)
          cases e3148
          refine zSp0 (pc' := 48) (st' := .int (2) :: _) vr_70_47 rfl rfl ?_
          refine zSb2 (f := fun x y => decide (x < y)) (off := 22) (t := 70) vr_70_48 rfl rfl rfl (fun x3150 y3150 e3150 f3150 q3150 => ?_) (fun x3150 y3150 e3150 f3150 q3150 => ?_)
          · cases e3150
            cases f3150
            have c3150 := of_decide_eq_true q3150
            refine zSaload (m := 1) (k := 2) vr_70_70 rfl rfl rfl ?_
            refine zSp0 (pc' := 72) (st' := .int (3) :: _) vr_70_71 rfl rfl ?_
            refine zLput vr_70_72 rfl (fun p3153 k3153 e3153 t3153 g3153 => ?_)
            cases e3153
            first
              | (have hS3 := (hS.put g3111 (art_st2 n24)).put g3062 (art_st2 n24)
                 have hC3 := (g3062.2.1 (73 + 4 * b.toNatClampNeg) 1).trans ((if_neg (by omega)).trans ((g3111.2.1 (73 + 4 * b.toNatClampNeg) 1).trans ((if_neg (by omega)).trans hC)))
                 have f11 := st_16_11 hS3)
              | (have hS3 := hS.put g3153 (art_st2 n24)
                 have hC3 := (g3153.2.1 (73 + 4 * b.toNatClampNeg) 1).trans ((if_neg (by omega)).trans hC)
                 have f11 := st_16_11 hS3)
            refine zSaload (m := 1) (k := 0) vr_70_75 rfl rfl rfl ?_
            refine zLget vr_70_76 rfl (fun p3155 w3155 e3155 t3155 g3155 => ?_)
            cases e3155
            first | (rw [hc] at g3155; cases g3155) | (rw [(st_16_10 hS)] at g3155; cases g3155) | (rw [(st_71_0 hS)] at g3155; cases g3155) | (rw [(st_art hS n24)] at g3155; cases g3155) | (rw [(st_16_11 hS)] at g3155; cases g3155) | (rw [f11] at g3155; cases g3155) | skip
            refine zSaload (m := 1) (k := 2) vr_70_79 rfl rfl rfl ?_
            refine zScall vr_70_80 rfl rfl rfl (fun m3157 _ => C_rel _ _ _ hS3 (by omega) hC3) (fun v3157 h3157 u3157 q3157 => ?_) (fun E3157 h3157 u3157 q3157 => ?_)
            · obtain ⟨z3157, rl3157⟩ := q3157
              cases z3157
              show zL zrx zi _ 70 83 [(3, _), (2, _), (0, _), (1, _)] [] _ _ _
              refine zSiload (m := 1) (k := 3) vr_70_83 rfl rfl rfl (fun x3158 e3158 => ?_)
              cases e3158
              refine zLiret vr_70_84 rfl (fun x3159 e3159 => ?_)
              cases e3159
              first
                | exact ⟨⟨r1, (iv_of g3137).trans (Decidable.not_not.mp c3138)⟩, _, C, _, rfl, hC, rfl, Or.inl ⟨Int32.not_lt.mp c3150, _, g3111, by rw [dd]; exact g3062⟩, rl3157⟩
                | exact ⟨⟨r1, (iv_of g3137).trans (Decidable.not_not.mp c3138)⟩, _, C, _, rfl, hC, rfl, Or.inr ⟨Int32.not_le.mpr c3150, g3153⟩, rl3157⟩
            · obtain ⟨z, -⟩ := q3157
              cases z
          · cases e3150
            cases f3150
            have c3150 := ndc q3150
            refine zSaload (m := 1) (k := 2) vr_70_51 rfl rfl rfl ?_
            refine zSp0 (pc' := 53) (st' := .int (1) :: _) vr_70_52 rfl rfl ?_
            refine zLput vr_70_53 rfl (fun p3162 k3162 e3162 t3162 g3162 => ?_)
            cases e3162
            refine zSaload (m := 1) (k := 2) vr_70_56 rfl rfl rfl ?_
            refine zSaload (m := 1) (k := 0) vr_70_57 rfl rfl rfl ?_
            refine zLget vr_70_58 rfl (fun p3165 w3165 e3165 t3165 g3165 => ?_)
            cases e3165
            first | (rw [hc] at g3165; cases g3165) | (rw [(st_16_10 hS)] at g3165; cases g3165) | (rw [(st_71_0 hS)] at g3165; cases g3165) | (rw [(st_art hS n24)] at g3165; cases g3165) | (rw [(st_16_11 hS)] at g3165; cases g3165) | (rw [f11] at g3165; cases g3165) | skip
            refine zSp0 (pc' := 63) (st' := .int (30) :: _) vr_70_61 rfl rfl ?_
            refine zS2 (f := fun x y => .int (x + y)) vr_70_63 rfl rfl (fun x3167 y3167 e3167 f3167 => ?_)
            cases e3167
            cases f3167
            have dd : iv h 16 0 = _ := (iv_eq ((g3162.2.1 16 0).trans (if_neg (by omega)))).symm.trans (iv_of g3165)
            refine zLput vr_70_64 rfl (fun p3168 k3168 e3168 t3168 g3168 => ?_)
            cases e3168
            refine zSgo (t := 75) vr_70_67 rfl rfl ?_
            first
              | (have hS3 := (hS.put g3162 (art_st2 n24)).put g3168 (art_st2 n24)
                 have hC3 := (g3168.2.1 (73 + 4 * b.toNatClampNeg) 1).trans ((if_neg (by omega)).trans ((g3162.2.1 (73 + 4 * b.toNatClampNeg) 1).trans ((if_neg (by omega)).trans hC)))
                 have f11 := st_16_11 hS3)
              | (have hS3 := hS.put g3153 (art_st2 n24)
                 have hC3 := (g3153.2.1 (73 + 4 * b.toNatClampNeg) 1).trans ((if_neg (by omega)).trans hC)
                 have f11 := st_16_11 hS3)
            refine zSaload (m := 1) (k := 0) vr_70_75 rfl rfl rfl ?_
            refine zLget vr_70_76 rfl (fun p3171 w3171 e3171 t3171 g3171 => ?_)
            cases e3171
            first | (rw [hc] at g3171; cases g3171) | (rw [(st_16_10 hS)] at g3171; cases g3171) | (rw [(st_71_0 hS)] at g3171; cases g3171) | (rw [(st_art hS n24)] at g3171; cases g3171) | (rw [(st_16_11 hS)] at g3171; cases g3171) | (rw [f11] at g3171; cases g3171) | skip
            refine zSaload (m := 1) (k := 2) vr_70_79 rfl rfl rfl ?_
            refine zScall vr_70_80 rfl rfl rfl (fun m3173 _ => C_rel _ _ _ hS3 (by omega) hC3) (fun v3173 h3173 u3173 q3173 => ?_) (fun E3173 h3173 u3173 q3173 => ?_)
            · obtain ⟨z3173, rl3173⟩ := q3173
              cases z3173
              show zL zrx zi _ 70 83 [(3, _), (2, _), (0, _), (1, _)] [] _ _ _
              refine zSiload (m := 1) (k := 3) vr_70_83 rfl rfl rfl (fun x3174 e3174 => ?_)
              cases e3174
              refine zLiret vr_70_84 rfl (fun x3175 e3175 => ?_)
              cases e3175
              first
                | exact ⟨⟨r1, (iv_of g3137).trans (Decidable.not_not.mp c3138)⟩, _, C, _, rfl, hC, rfl, Or.inl ⟨Int32.not_lt.mp c3150, _, g3162, by rw [dd]; exact g3168⟩, rl3173⟩
                | exact ⟨⟨r1, (iv_of g3137).trans (Decidable.not_not.mp c3138)⟩, _, C, _, rfl, hC, rfl, Or.inr ⟨Int32.not_le.mpr c3150, g3153⟩, rl3173⟩
            · obtain ⟨z, -⟩ := q3173
              cases z
        · obtain ⟨-, z⟩ := q3146
          cases z
      · obtain ⟨-, z, -⟩ := q3141
        exact absurd z (by decide)
  · obtain ⟨rfl, q1, q2⟩ := q3129
    rw [zCat_no vh_70_8_0]
    exact ⟨q2, Or.inl ⟨rfl, q1⟩⟩
abbrev Q_Lvote (cnt : Int32) (b : Int32) (h : List zC) : zK := fun o h2 _ => ∃ k : Int32, o = .inl (some (.int k)) ∧
  ((k = 0 ∧ ((iN cnt.toInt b) ∧ iv h (73 + 4 * b.toNatClampNeg) 2 = 0) ∧ ∃ (y : Int32) (C : Nat) (h1 h3 : List zC), gF h (73 + 4 * b.toNatClampNeg) 1 = some (.ref C) ∧ y = hcF (fun i => bCs (fun f => iv h (173 + 3 * f) i) (fun f => sideC 0 (iv h (171 + 3 * f) 3) (iv h (73 + 4 * b.toNatClampNeg) 0) (lkC h f C)) 4) 3 ∧ ((2 ≤ y ∧ ∃ h0 : List zC, hPut h h0 (73 + 4 * b.toNatClampNeg) 2 (.int 1) ∧ hPut h0 h1 (73 + 4 * b.toNatClampNeg) 3 (.int (iv h 16 0 + 30))) ∨ (¬ 2 ≤ y ∧ hPut h h1 (73 + 4 * b.toNatClampNeg) 2 (.int 3))) ∧ rLC (iv h1 C 0).toNatClampNeg h1 h3 (iv h1 (73 + 4 * b.toNatClampNeg) 0) 4 ∧ hPut h3 h2 238 0 (.long y.toInt64)) ∨ (k = 1 ∧ ¬ (iN cnt.toInt b) ∧ hExt h h2) ∨ (k = 2 ∧ (iN cnt.toInt b) ∧ ¬ (iv h (73 + 4 * b.toNatClampNeg) 2 = 0) ∧ hExt h h2))
theorem C_Lvote (n : Nat) (b : Int32) (h : List zC) (u : Nat) {cnt : Int32} (hS : Stc h) (hc : gF h 71 2 = some (.int cnt)) (hc2 : cnt.toInt ≤ 24) (hCl : ∀ k, k < cnt.toNatClampNeg → ∃ C : Nat, gF h (73 + 4 * k) 1 = some (.ref C) ∧ 239 ≤ C) : zL zrx zi n 221 0 [(0, .ref 16), (1, .int b), (2, .ref 238)] [] h u (Q_Lvote cnt b h) := by
  refine zSaload (m := 1) (k := 2) vr_221_0 rfl rfl rfl ?_
  refine zSaload (m := 1) (k := 0) vr_221_1 rfl rfl rfl ?_
  refine zSiload (m := 1) (k := 1) vr_221_2 rfl rfl rfl (fun x3178 e3178 => ?_)
  cases e3178
  refine zScall vr_221_3 rfl rfl rfl (fun m3179 _ => C_vote _ _ _ _ hS hc hc2 hCl) (fun v3179 h3179 u3179 q3179 => ?_) (fun E3179 h3179 u3179 q3179 => ?_)
  · obtain ⟨k1, y3179, C3179, i3179, rfl, k2, k3, k4, k5⟩ := q3179
    show zL zrx zi _ 221 6 [(0, _), (1, _), (2, _)] [_, _] _ _ _
    refine zS1 (f := fun x => .long x.toInt64) vr_221_6 rfl rfl (fun x3180 e3180 => ?_)
    cases e3180
    refine zLput vr_221_7 rfl (fun p3181 k3181 e3181 t3181 g3181 => ?_)
    cases e3181
    have gP := g3181
    refine zSgo (t := 19) vr_221_10 rfl rfl ?_
    refine zSp0 (pc' := 20) (st' := .int (0) :: _) vr_221_19 rfl rfl ?_
    refine zLiret vr_221_20 rfl (fun x3184 e3184 => ?_)
    cases e3184
    exact ⟨_, rfl, Or.inl ⟨rfl, k1, _, _, _, _, k2, k3, k4, k5, gP⟩⟩
  · obtain ⟨q1, ⟨rfl, z⟩ | ⟨rfl, z⟩⟩ := q3179
    · rw [zCat_hit (k := 3) (m := 1) vh_221_3_0 vr_221_13 rfl (by decide)]
      show zL zrx zi _ 221 14 [(0, _), (1, _), (2, _)] [] _ _ _
      refine zSp0 (pc' := 15) (st' := .int (1) :: _) vr_221_14 rfl rfl ?_
      refine zLiret vr_221_15 rfl (fun x3186 e3186 => ?_)
      cases e3186
      exact ⟨_, rfl, Or.inr (Or.inl ⟨rfl, z, q1⟩)⟩
    · rw [zCat_hit (k := 3) (m := 1) vh_221_3_2 vr_221_16 rfl (by decide)]
      show zL zrx zi _ 221 17 [(0, _), (1, _), (2, _)] [] _ _ _
      refine zSp0 (pc' := 18) (st' := .int (2) :: _) vr_221_17 rfl rfl ?_
      refine zLiret vr_221_18 rfl (fun x3188 e3188 => ?_)
      cases e3188
      exact ⟨_, rfl, Or.inr (Or.inr ⟨rfl, z.1, z.2, q1⟩)⟩
theorem C_repeal (n : Nat) (b : Int32) (h : List zC) (u : Nat) {cnt : Int32} (hS : Stc h) (hc : gF h 71 2 = some (.int cnt)) (hc2 : cnt.toInt ≤ 24) (hCl : ∀ k, k < cnt.toNatClampNeg → ∃ C : Nat, gF h (73 + 4 * k) 1 = some (.ref C) ∧ 239 ≤ C) : zL zrx zi n 71 0 [(0, .ref 16), (1, .int b)] [] h u (fun o h1 _ => match o with
  | .inl v => (iN cnt.toInt b ∧ iv h (73 + 4 * b.toNatClampNeg) 2 = 1) ∧ ∃ (y : Int32) (C : Nat), v = some (.int y) ∧ gF h (73 + 4 * b.toNatClampNeg) 1 = some (.ref C) ∧ y = hcF (fun i => bCs (fun f => iv h (173 + 3 * f) i) (fun f => sideC 1 (iv h (171 + 3 * f) 3) (iv h (73 + 4 * b.toNatClampNeg) 0) (lkC h f C)) 4) 3 ∧ ((2 ≤ y ∧ ∃ h0 : List zC, hPut h h0 (73 + 4 * b.toNatClampNeg) 2 (.int 2) ∧ hPut h0 h1 (73 + 4 * b.toNatClampNeg) 4 (.int (iv h 16 0 + 30))) ∨ (¬ 2 ≤ y ∧ h1 = h))
  | .inr E => hExt h h1 ∧ ((E = 0 ∧ ¬ iN cnt.toInt b) ∨ (E = 2 ∧ iN cnt.toInt b ∧ ¬ iv h (73 + 4 * b.toNatClampNeg) 2 = 1))) := by
  refine zSiload (m := 1) (k := 1) vr_71_0 rfl rfl rfl (fun x3189 e3189 => ?_)
  cases e3189
  refine zSaload (m := 1) (k := 0) vr_71_1 rfl rfl rfl ?_
  refine zLget vr_71_2 rfl (fun p3191 w3191 e3191 t3191 g3191 => ?_)
  cases e3191
  first | (rw [hc] at g3191; cases g3191) | (rw [(st_16_10 hS)] at g3191; cases g3191) | (rw [(st_71_0 hS)] at g3191; cases g3191) | (rw [(st_art hS n24)] at g3191; cases g3191) | (rw [(st_16_11 hS)] at g3191; cases g3191) | skip
  refine zLget vr_71_5 rfl (fun p3192 w3192 e3192 t3192 g3192 => ?_)
  cases e3192
  first | (rw [hc] at g3192; cases g3192) | (rw [(st_16_10 hS)] at g3192; cases g3192) | (rw [(st_71_0 hS)] at g3192; cases g3192) | (rw [(st_art hS n24)] at g3192; cases g3192) | (rw [(st_16_11 hS)] at g3192; cases g3192) | skip
  refine zScall vr_71_8 rfl rfl rfl (fun m3193 _ => C_num6 _ _ _ _ (m := cnt.toInt) rfl) (fun v3193 h3193 u3193 q3193 => ?_) (fun E3193 h3193 u3193 q3193 => ?_)
  · obtain ⟨eh3193, rfl, r1⟩ := q3193
    replace eh3193 := eh3193.symm
    subst eh3193
    show zL zrx zi _ 71 11 [(0, _), (1, _)] [] _ _ _
    have n24 := n24i r1 hc2
    obtain ⟨C, hC, lC⟩ := hCl b.toNatClampNeg (by
      obtain ⟨a1, a2⟩ := r1
      show b.toInt.toNat < cnt.toInt.toNat
      omega)
    refine zSaload (m := 1) (k := 0) vr_71_11 rfl rfl rfl ?_
    refine zLget vr_71_12 rfl (fun p3195 w3195 e3195 t3195 g3195 => ?_)
    cases e3195
    first | (rw [hc] at g3195; cases g3195) | (rw [(st_16_10 hS)] at g3195; cases g3195) | (rw [(st_71_0 hS)] at g3195; cases g3195) | (rw [(st_art hS n24)] at g3195; cases g3195) | (rw [(st_16_11 hS)] at g3195; cases g3195) | skip
    refine zLget vr_71_15 rfl (fun p3196 w3196 e3196 t3196 g3196 => ?_)
    cases e3196
    first | (rw [hc] at g3196; cases g3196) | (rw [(st_16_10 hS)] at g3196; cases g3196) | (rw [(st_71_0 hS)] at g3196; cases g3196) | (rw [(st_art hS n24)] at g3196; cases g3196) | (rw [(st_16_11 hS)] at g3196; cases g3196) | skip
    refine zSiload (m := 1) (k := 1) vr_71_18 rfl rfl rfl (fun x3197 e3197 => ?_)
    cases e3197
    refine zLaald vr_71_19 rfl (fun p3198 x3198 w3198 e3198 f3198 c3198 t3198 g3198 => ?_)
    cases e3198
    cases f3198
    first | (rw [hc] at g3198; cases g3198) | (rw [(st_16_10 hS)] at g3198; cases g3198) | (rw [(st_71_0 hS)] at g3198; cases g3198) | (rw [(st_art hS n24)] at g3198; cases g3198) | (rw [(st_16_11 hS)] at g3198; cases g3198) | skip
    refine zSastore (m := 1) (k := 2) vr_71_20 rfl rfl ?_
    show zL zrx zi _ 71 21 [(2, _), (0, _), (1, _)] [] _ _ _
    refine zSaload (m := 1) (k := 2) vr_71_21 rfl rfl rfl ?_
    refine zLget vr_71_22 rfl (fun p3201 w3201 e3201 t3201 g3201 => ?_)
    cases e3201
    first | (rw [hc] at g3201; cases g3201) | (rw [(st_16_10 hS)] at g3201; cases g3201) | (rw [(st_71_0 hS)] at g3201; cases g3201) | (rw [(st_art hS n24)] at g3201; cases g3201) | (rw [(st_16_11 hS)] at g3201; cases g3201) | skip
    refine zSp0 (pc' := 26) (st' := .int (1) :: _) vr_71_25 rfl rfl ?_
    refine zSb2 (f := fun x y => decide (¬ x = y)) (off := 7) (t := 33) vr_71_26 rfl rfl rfl (fun x3203 y3203 e3203 f3203 q3203 => ?_) (fun x3203 y3203 e3203 f3203 q3203 => ?_)
    · cases e3203
      cases f3203
      have c3203 := of_decide_eq_true q3203
      refine zSp0 (pc' := 34) (st' := .int (0) :: _) vr_71_33 rfl rfl ?_
      refine zScall vr_71_34 rfl rfl rfl (fun m _ => C_needState _ _ _ _) (fun v h u q => absurd rfl q.2.2) (fun E h3 u q => ?_)
      obtain ⟨rfl, -, q2⟩ := q
      rw [zCat_no vh_71_34_2]
      exact ⟨q2, Or.inr ⟨rfl, r1, fun z => c3203 ((iv_of g3201).symm.trans z)⟩⟩
    · cases e3203
      cases f3203
      have c3203 := ndc q3203
      refine zSp0 (pc' := 30) (st' := .int (1) :: _) vr_71_29 rfl rfl ?_
      refine zSgo (t := 34) vr_71_30 rfl rfl ?_
      refine zScall vr_71_34 rfl rfl rfl (fun m3206 _ => C_needState _ _ _ _) (fun v3206 h3206 u3206 q3206 => ?_) (fun E3206 h3206 u3206 q3206 => ?_)
      · obtain ⟨eh3206, rfl, -⟩ := q3206
        replace eh3206 := eh3206.symm
        subst eh3206
        show zL zrx zi _ 71 37 [(2, _), (0, _), (1, _)] [] _ _ _
        refine zSaload (m := 1) (k := 0) vr_71_37 rfl rfl rfl ?_
        refine zLget vr_71_38 rfl (fun p3208 w3208 e3208 t3208 g3208 => ?_)
        cases e3208
        first | (rw [hc] at g3208; cases g3208) | (rw [(st_16_10 hS)] at g3208; cases g3208) | (rw [(st_71_0 hS)] at g3208; cases g3208) | (rw [(st_art hS n24)] at g3208; cases g3208) | (rw [(st_16_11 hS)] at g3208; cases g3208) | skip
        refine zSaload (m := 1) (k := 2) vr_71_41 rfl rfl rfl ?_
        refine zSp0 (pc' := 43) (st' := .int (1) :: _) vr_71_42 rfl rfl ?_
        refine zScall vr_71_43 rfl rfl rfl (fun m3211 _ => C_inF _ _ _ _ hS hC) (fun v3211 h3211 u3211 q3211 => ?_) (fun E3211 h3211 u3211 q3211 => ?_)
        · obtain ⟨eh3211, z3211⟩ := q3211
          replace eh3211 := eh3211.symm
          subst eh3211
          cases z3211
          show zL zrx zi _ 71 46 [(2, _), (0, _), (1, _)] [_] _ _ _
          refine zSistore (m := 1) (k := 3) vr_71_46 rfl rfl (fun x3212 e3212 => ?_)
          cases e3212
          show zL zrx zi _ 71 47 [(3, _), (2, _), (0, _), (1, _)] [] _ _ _
          refine zSiload (m := 1) (k := 3) vr_71_47 rfl rfl rfl (fun x3213 e3213 => ?_)
          cases e3213
          refine zSp0 (pc' := 49) (st' := .int (2) :: _) vr_71_48 rfl rfl ?_
          refine zSb2 (f := fun x y => decide (x < y)) (off := 19) (t := 68) vr_71_49 rfl rfl rfl (fun x3215 y3215 e3215 f3215 q3215 => ?_) (fun x3215 y3215 e3215 f3215 q3215 => ?_)
          · cases e3215
            cases f3215
            have c3215 := of_decide_eq_true q3215
            refine zSiload (m := 1) (k := 3) vr_71_68 rfl rfl rfl (fun x3216 e3216 => ?_)
            cases e3216
            refine zLiret vr_71_69 rfl (fun x3217 e3217 => ?_)
            cases e3217
            first
              | exact ⟨⟨r1, (iv_of g3201).trans (Decidable.not_not.mp c3203)⟩, _, C, rfl, hC, rfl, Or.inl ⟨Int32.not_lt.mp c3215, _, g3112, by rw [dd]; exact g3118⟩⟩
              | exact ⟨⟨r1, (iv_of g3201).trans (Decidable.not_not.mp c3203)⟩, _, C, rfl, hC, rfl, Or.inr ⟨Int32.not_le.mpr c3215, rfl⟩⟩
          · cases e3215
            cases f3215
            have c3215 := ndc q3215
            refine zSaload (m := 1) (k := 2) vr_71_52 rfl rfl rfl ?_
            refine zSp0 (pc' := 54) (st' := .int (2) :: _) vr_71_53 rfl rfl ?_
            refine zLput vr_71_54 rfl (fun p3220 k3220 e3220 t3220 g3220 => ?_)
            cases e3220
            refine zSaload (m := 1) (k := 2) vr_71_57 rfl rfl rfl ?_
            refine zSaload (m := 1) (k := 0) vr_71_58 rfl rfl rfl ?_
            refine zLget vr_71_59 rfl (fun p3223 w3223 e3223 t3223 g3223 => ?_)
            cases e3223
            first | (rw [hc] at g3223; cases g3223) | (rw [(st_16_10 hS)] at g3223; cases g3223) | (rw [(st_71_0 hS)] at g3223; cases g3223) | (rw [(st_art hS n24)] at g3223; cases g3223) | (rw [(st_16_11 hS)] at g3223; cases g3223) | skip
            refine zSp0 (pc' := 64) (st' := .int (30) :: _) vr_71_62 rfl rfl ?_
            refine zS2 (f := fun x y => .int (x + y)) vr_71_64 rfl rfl (fun x3225 y3225 e3225 f3225 => ?_)
            cases e3225
            cases f3225
            have dd : iv h 16 0 = _ := (iv_eq ((g3220.2.1 16 0).trans (if_neg (by omega)))).symm.trans (iv_of g3223)
            refine zLput vr_71_65 rfl (fun p3226 k3226 e3226 t3226 g3226 => ?_)
            cases e3226
            refine zSiload (m := 1) (k := 3) vr_71_68 rfl rfl rfl (fun x3227 e3227 => ?_)
            cases e3227
            refine zLiret vr_71_69 rfl (fun x3228 e3228 => ?_)
            cases e3228
            first
              | exact ⟨⟨r1, (iv_of g3201).trans (Decidable.not_not.mp c3203)⟩, _, C, rfl, hC, rfl, Or.inl ⟨Int32.not_lt.mp c3215, _, g3220, by rw [dd]; exact g3226⟩⟩
              | exact ⟨⟨r1, (iv_of g3201).trans (Decidable.not_not.mp c3203)⟩, _, C, rfl, hC, rfl, Or.inr ⟨Int32.not_le.mpr c3215, rfl⟩⟩
        · obtain ⟨-, z⟩ := q3211
          cases z
      · obtain ⟨-, z, -⟩ := q3206
        exact absurd z (by decide)
  · obtain ⟨rfl, q1, q2⟩ := q3193
    rw [zCat_no vh_71_8_0]
    exact ⟨q2, Or.inl ⟨rfl, q1⟩⟩
abbrev Q_Lrepeal (cnt : Int32) (b : Int32) (h : List zC) : zK := fun o h2 _ => ∃ k : Int32, o = .inl (some (.int k)) ∧
  ((k = 0 ∧ ((iN cnt.toInt b) ∧ iv h (73 + 4 * b.toNatClampNeg) 2 = 1) ∧ ∃ (y : Int32) (C : Nat) (h1 : List zC), gF h (73 + 4 * b.toNatClampNeg) 1 = some (.ref C) ∧ y = hcF (fun i => bCs (fun f => iv h (173 + 3 * f) i) (fun f => sideC 1 (iv h (171 + 3 * f) 3) (iv h (73 + 4 * b.toNatClampNeg) 0) (lkC h f C)) 4) 3 ∧ ((2 ≤ y ∧ ∃ h0 : List zC, hPut h h0 (73 + 4 * b.toNatClampNeg) 2 (.int 2) ∧ hPut h0 h1 (73 + 4 * b.toNatClampNeg) 4 (.int (iv h 16 0 + 30))) ∨ (¬ 2 ≤ y ∧ h1 = h)) ∧ hPut h1 h2 238 0 (.long y.toInt64)) ∨ (k = 1 ∧ ¬ (iN cnt.toInt b) ∧ hExt h h2) ∨ (k = 2 ∧ (iN cnt.toInt b) ∧ ¬ (iv h (73 + 4 * b.toNatClampNeg) 2 = 1) ∧ hExt h h2))
theorem C_Lrepeal (n : Nat) (b : Int32) (h : List zC) (u : Nat) {cnt : Int32} (hS : Stc h) (hc : gF h 71 2 = some (.int cnt)) (hc2 : cnt.toInt ≤ 24) (hCl : ∀ k, k < cnt.toNatClampNeg → ∃ C : Nat, gF h (73 + 4 * k) 1 = some (.ref C) ∧ 239 ≤ C) : zL zrx zi n 222 0 [(0, .ref 16), (1, .int b), (2, .ref 238)] [] h u (Q_Lrepeal cnt b h) := by
  refine zSaload (m := 1) (k := 2) vr_222_0 rfl rfl rfl ?_
  refine zSaload (m := 1) (k := 0) vr_222_1 rfl rfl rfl ?_
  refine zSiload (m := 1) (k := 1) vr_222_2 rfl rfl rfl (fun x3231 e3231 => ?_)
  cases e3231
  refine zScall vr_222_3 rfl rfl rfl (fun m3232 _ => C_repeal _ _ _ _ hS hc hc2 hCl) (fun v3232 h3232 u3232 q3232 => ?_) (fun E3232 h3232 u3232 q3232 => ?_)
  · obtain ⟨k1, y3232, C3232, rfl, k2, k3, k4⟩ := q3232
    show zL zrx zi _ 222 6 [(0, _), (1, _), (2, _)] [_, _] _ _ _
    refine zS1 (f := fun x => .long x.toInt64) vr_222_6 rfl rfl (fun x3233 e3233 => ?_)
    cases e3233
    refine zLput vr_222_7 rfl (fun p3234 k3234 e3234 t3234 g3234 => ?_)
    cases e3234
    have gP := g3234
    refine zSgo (t := 19) vr_222_10 rfl rfl ?_
    refine zSp0 (pc' := 20) (st' := .int (0) :: _) vr_222_19 rfl rfl ?_
    refine zLiret vr_222_20 rfl (fun x3237 e3237 => ?_)
    cases e3237
    exact ⟨_, rfl, Or.inl ⟨rfl, k1, _, _, _, k2, k3, k4, gP⟩⟩
  · obtain ⟨q1, ⟨rfl, z⟩ | ⟨rfl, z⟩⟩ := q3232
    · rw [zCat_hit (k := 3) (m := 1) vh_222_3_0 vr_222_13 rfl (by decide)]
      show zL zrx zi _ 222 14 [(0, _), (1, _), (2, _)] [] _ _ _
      refine zSp0 (pc' := 15) (st' := .int (1) :: _) vr_222_14 rfl rfl ?_
      refine zLiret vr_222_15 rfl (fun x3239 e3239 => ?_)
      cases e3239
      exact ⟨_, rfl, Or.inr (Or.inl ⟨rfl, z, q1⟩)⟩
    · rw [zCat_hit (k := 3) (m := 1) vh_222_3_2 vr_222_16 rfl (by decide)]
      show zL zrx zi _ 222 17 [(0, _), (1, _), (2, _)] [] _ _ _
      refine zSp0 (pc' := 18) (st' := .int (2) :: _) vr_222_17 rfl rfl ?_
      refine zLiret vr_222_18 rfl (fun x3241 e3241 => ?_)
      cases e3241
      exact ⟨_, rfl, Or.inr (Or.inr ⟨rfl, z.1, z.2, q1⟩)⟩
set_option maxRecDepth 20000 in
theorem C_mpl_loop {h : List zC} {f b : Int32} : ∀ (n k : Nat) (r : Int32) (w : Value) (u : Nat), k ≤ 4 → pcF (fun f => iv h 236 f) b k = r → zL zrx zi n 166 75 [(6, .int (Int32.ofNat k)), (3, .int r), (5, .int (Int32.ofNat 4)), (4, .ref 236), (0, .ref 213), (1, .int f), (2, .int b), (7, w)] [] h u (fun o h2 _ => h2 = h ∧ o = .inl (some (.int (pcF (fun f => iv h 236 f) b 4))))
  | 0, _, _, _, _ => fun _ _ => trivial
  | n + 1, k, r, w, u => fun hk hD => by
    have kk := (toNat_ofNat (m := k) (by omega))
    have z4 : (Int32.ofNat 4).toInt = 4 := rfl
    refine zLp vr_166_75 rfl rfl ?_
    refine zSiload (m := 2) (k := 5) vr_166_77 rfl rfl rfl (fun x3263 e3263 => ?_)
    cases e3263
    refine zSb2 (f := fun x y => decide (y ≤ x)) (off := 30) (t := 109) vr_166_79 rfl rfl rfl (fun x3264 y3264 e3264 f3264 q3264 => ?_) (fun x3264 y3264 e3264 f3264 q3264 => ?_)
    · cases e3264
      cases f3264
      have c3264 := of_decide_eq_true q3264
      refine zSiload (m := 1) (k := 3) vr_166_109 rfl rfl rfl (fun x3265 e3265 => ?_)
      cases e3265
      refine zLiret vr_166_110 rfl (fun x3266 e3266 => ?_)
      cases e3266
      have e : k = 4 := by
        have y := c3264
        rw [i32_le, kk.2, z4] at y
        omega
      subst e
      rw [hD]
      exact ⟨rfl, rfl⟩
    · cases e3264
      cases f3264
      have c3264 := ndc q3264
      have k4 : k < 4 := by
        have y := c3264
        rw [i32_le, kk.2, z4] at y
        omega
      refine zSaload (m := 2) (k := 4) vr_166_82 rfl rfl rfl ?_
      refine zSiload (m := 2) (k := 6) vr_166_84 rfl rfl rfl (fun x3268 e3268 => ?_)
      cases e3268
      refine zLiald vr_166_86 rfl (fun p3269 x3269 w3269 e3269 f3269 c3269 t3269 g3269 => ?_)
      cases e3269
      cases f3269
      have g86 := g3269
      rw [kk.1] at g86
      refine zSistore (m := 2) (k := 7) vr_166_87 rfl rfl (fun x3270 e3270 => ?_)
      cases e3270
      show zL zrx zi _ 166 89 [(7, _), (6, _), (3, _), (5, _), (4, _), (0, _), (1, _), (2, _)] [] _ _ _
      refine zSiload (m := 1) (k := 3) vr_166_89 rfl rfl rfl (fun x3271 e3271 => ?_)
      cases e3271
      refine zSiload (m := 2) (k := 7) vr_166_90 rfl rfl rfl (fun x3272 e3272 => ?_)
      cases e3272
      refine zSiload (m := 1) (k := 2) vr_166_92 rfl rfl rfl (fun x3273 e3273 => ?_)
      cases e3273
      refine zSb2 (f := fun x y => decide (¬ x = y)) (off := 7) (t := 100) vr_166_93 rfl rfl rfl (fun x3274 y3274 e3274 f3274 q3274 => ?_) (fun x3274 y3274 e3274 f3274 q3274 => ?_)
      · cases e3274
        cases f3274
        have c3274 := of_decide_eq_true q3274
        refine zSp0 (pc' := 101) (st' := .int (0) :: _) vr_166_100 rfl rfl ?_
        refine zS2 (f := fun x y => .int (x + y)) vr_166_101 rfl rfl (fun x3276 y3276 e3276 f3276 => ?_)
        cases e3276
        cases f3276
        refine zSistore (m := 1) (k := 3) vr_166_102 rfl rfl (fun x3277 e3277 => ?_)
        cases e3277
        show zL zrx zi _ 166 103 [(3, _), (7, _), (6, _), (5, _), (4, _), (0, _), (1, _), (2, _)] [] _ _ _
        refine zSiinc vr_166_103 rfl rfl (fun x3278 e3278 => ?_)
        cases e3278
        show zL zrx zi _ 166 106 [(6, _), (3, _), (7, _), (5, _), (4, _), (0, _), (1, _), (2, _)] [] _ _ _
        refine zSgo (t := 75) vr_166_106 rfl rfl ?_
        rw [ofNat_succ]
        refine zL_pm _ _ _ [(6, _), (3, _), (5, _), (4, _), (0, _), (1, _), (2, _), (7, _)] _ _ _ _ _ ⟨(List.forall_mem_cons.mpr ⟨List.mem_cons_self, (List.forall_mem_cons.mpr ⟨(List.mem_cons_of_mem _ List.mem_cons_self), (List.forall_mem_cons.mpr ⟨(List.mem_cons_of_mem _ (List.mem_cons_of_mem _ (List.mem_cons_of_mem _ (List.mem_cons_of_mem _ (List.mem_cons_of_mem _ (List.mem_cons_of_mem _ (List.mem_cons_of_mem _ List.mem_cons_self))))))), (List.forall_mem_cons.mpr ⟨(List.mem_cons_of_mem _ (List.mem_cons_of_mem _ List.mem_cons_self)), (List.forall_mem_cons.mpr ⟨(List.mem_cons_of_mem _ (List.mem_cons_of_mem _ (List.mem_cons_of_mem _ List.mem_cons_self))), (List.forall_mem_cons.mpr ⟨(List.mem_cons_of_mem _ (List.mem_cons_of_mem _ (List.mem_cons_of_mem _ (List.mem_cons_of_mem _ List.mem_cons_self)))), (List.forall_mem_cons.mpr ⟨(List.mem_cons_of_mem _ (List.mem_cons_of_mem _ (List.mem_cons_of_mem _ (List.mem_cons_of_mem _ (List.mem_cons_of_mem _ List.mem_cons_self))))), (List.forall_mem_cons.mpr ⟨(List.mem_cons_of_mem _ (List.mem_cons_of_mem _ (List.mem_cons_of_mem _ (List.mem_cons_of_mem _ (List.mem_cons_of_mem _ (List.mem_cons_of_mem _ List.mem_cons_self)))))), (fun _ h => absurd h List.not_mem_nil)⟩)⟩)⟩)⟩)⟩)⟩)⟩)⟩), show ([6, 3, 5, 4, 0, 1, 2, 7] : List Nat).Nodup by decide⟩ (C_mpl_loop n (k + 1) _ _ _ (by omega) ?_)
        first
          | exact (pcF_n (by rw [iv_of g86]; exact c3274)).trans (hD.trans (Int32.add_zero _).symm)
          | exact (pcF_y (by rw [iv_of g86]; exact Decidable.not_not.mp c3274)).trans (by rw [hD])
      · cases e3274
        cases f3274
        have c3274 := ndc q3274
        refine zSp0 (pc' := 97) (st' := .int (1) :: _) vr_166_96 rfl rfl ?_
        refine zSgo (t := 101) vr_166_97 rfl rfl ?_
        refine zS2 (f := fun x y => .int (x + y)) vr_166_101 rfl rfl (fun x3282 y3282 e3282 f3282 => ?_)
        cases e3282
        cases f3282
        refine zSistore (m := 1) (k := 3) vr_166_102 rfl rfl (fun x3283 e3283 => ?_)
        cases e3283
        show zL zrx zi _ 166 103 [(3, _), (7, _), (6, _), (5, _), (4, _), (0, _), (1, _), (2, _)] [] _ _ _
        refine zSiinc vr_166_103 rfl rfl (fun x3284 e3284 => ?_)
        cases e3284
        show zL zrx zi _ 166 106 [(6, _), (3, _), (7, _), (5, _), (4, _), (0, _), (1, _), (2, _)] [] _ _ _
        refine zSgo (t := 75) vr_166_106 rfl rfl ?_
        rw [ofNat_succ]
        refine zL_pm _ _ _ [(6, _), (3, _), (5, _), (4, _), (0, _), (1, _), (2, _), (7, _)] _ _ _ _ _ ⟨(List.forall_mem_cons.mpr ⟨List.mem_cons_self, (List.forall_mem_cons.mpr ⟨(List.mem_cons_of_mem _ List.mem_cons_self), (List.forall_mem_cons.mpr ⟨(List.mem_cons_of_mem _ (List.mem_cons_of_mem _ (List.mem_cons_of_mem _ (List.mem_cons_of_mem _ (List.mem_cons_of_mem _ (List.mem_cons_of_mem _ (List.mem_cons_of_mem _ List.mem_cons_self))))))), (List.forall_mem_cons.mpr ⟨(List.mem_cons_of_mem _ (List.mem_cons_of_mem _ List.mem_cons_self)), (List.forall_mem_cons.mpr ⟨(List.mem_cons_of_mem _ (List.mem_cons_of_mem _ (List.mem_cons_of_mem _ List.mem_cons_self))), (List.forall_mem_cons.mpr ⟨(List.mem_cons_of_mem _ (List.mem_cons_of_mem _ (List.mem_cons_of_mem _ (List.mem_cons_of_mem _ List.mem_cons_self)))), (List.forall_mem_cons.mpr ⟨(List.mem_cons_of_mem _ (List.mem_cons_of_mem _ (List.mem_cons_of_mem _ (List.mem_cons_of_mem _ (List.mem_cons_of_mem _ List.mem_cons_self))))), (List.forall_mem_cons.mpr ⟨(List.mem_cons_of_mem _ (List.mem_cons_of_mem _ (List.mem_cons_of_mem _ (List.mem_cons_of_mem _ (List.mem_cons_of_mem _ (List.mem_cons_of_mem _ List.mem_cons_self)))))), (fun _ h => absurd h List.not_mem_nil)⟩)⟩)⟩)⟩)⟩)⟩)⟩)⟩), show ([6, 3, 5, 4, 0, 1, 2, 7] : List Nat).Nodup by decide⟩ (C_mpl_loop n (k + 1) _ _ _ (by omega) ?_)
        first
          | exact (pcF_n (by rw [iv_of g86]; exact c3274)).trans (hD.trans (Int32.add_zero _).symm)
          | exact (pcF_y (by rw [iv_of g86]; exact Decidable.not_not.mp c3274)).trans (by rw [hD])
abbrev Q_mpledge (el : Nat) (cnt : Int32) (f b : Int32) (h : List zC) : zK := fun o h2 _ => ∃ (y : Int32) (h0 : List zC), o = .inl (some (.int y)) ∧ hPut h h0 213 0 (.int 0) ∧
  (((iN 4 f ∧ iN cnt.toInt b) ∧ ∃ A : Nat, gF h el b.toNatClampNeg = some (.ref A) ∧ ((iv h A 9 = 0 ∧ iv h 236 f.toNatClampNeg = -1) ∧ hPut h0 h2 236 f.toNatClampNeg (.int b) ∧ y = pcF (fun k => iv h2 236 k) b 4 ∨ ¬ (iv h A 9 = 0 ∧ iv h 236 f.toNatClampNeg = -1) ∧ hPut h0 h2 213 0 (.int 2))) ∨ (¬ (iN 4 f ∧ iN cnt.toInt b) ∧ hPut h0 h2 213 0 (.int 1)))
theorem C_mpledge (n : Nat) (f b : Int32) (h : List zC) (u : Nat) {el : Nat} {cnt : Int32} (hS : Stc h) (hL : gF h 225 1 = some (.ref el)) (hs : gF h 225 2 = some (.int cnt)) (h0c : 0 ≤ cnt.toInt) (h213 : ¬ el = 213) (hA : ∀ k, k < cnt.toNatClampNeg → ∃ A : Nat, gF h el k = some (.ref A) ∧ 239 ≤ A) (hN : gN h 236 = some 4) : zL zrx zi n 166 0 [(0, .ref 213), (1, .int f), (2, .int b)] [] h u (Q_mpledge el cnt f b h) := by
  refine zSaload (m := 1) (k := 0) vr_166_0 rfl rfl rfl ?_
  refine zSp0 (pc' := 2) (st' := .int (0) :: _) vr_166_1 rfl rfl ?_
  refine zLput vr_166_2 rfl (fun p3288 k3288 e3288 t3288 g3288 => ?_)
  cases e3288
  have t0 := g3288
  have hS0 := hS.thr t0
  have f0 : ∀ q k, ¬ (q = 213 ∧ k = 0) → gF k3288 q k = gF h q k := fun q k z => by rw [t0.2.1, if_neg z]
  have hs0 := (f0 225 2 (by omega)).trans hs
  have hL0 := (f0 225 1 (by omega)).trans hL
  refine zSiload (m := 1) (k := 1) vr_166_5 rfl rfl rfl (fun x3289 e3289 => ?_)
  cases e3289
  refine zSp0 (pc' := 7) (st' := .int (0) :: _) vr_166_6 rfl rfl ?_
  refine zSp0 (pc' := 8) (st' := .int (3) :: _) vr_166_7 rfl rfl ?_
  refine zScall vr_166_8 rfl rfl rfl (fun m3292 _ => C_in _ _ _ _ _ _) (fun v3292 h3292 u3292 q3292 => ?_) (fun E3292 h3292 u3292 q3292 => ?_)
  · obtain ⟨eh3292, z3292⟩ := q3292
    replace eh3292 := eh3292.symm
    subst eh3292
    cases z3292
    show zL zrx zi _ 166 11 [(0, _), (1, _), (2, _)] [_] _ _ _
    refine zSb1 (f := fun x => decide (x = 0)) (off := 11) (t := 22) vr_166_11 rfl rfl rfl (fun x3293 e3293 q3293 => ?_) (fun x3293 e3293 q3293 => ?_)
    · cases e3293
      have c3293 := of_decide_eq_true q3293
      refine zSaload (m := 1) (k := 0) vr_166_22 rfl rfl rfl ?_
      refine zSp0 (pc' := 24) (st' := .int (1) :: _) vr_166_23 rfl rfl ?_
      refine zScall vr_166_24 rfl rfl rfl (fun m3296 _ => C_no _ _ _ _ _) (fun v3296 h3296 u3296 q3296 => ?_) (fun E3296 h3296 u3296 q3296 => ?_)
      · obtain ⟨gn3296, z3296⟩ := q3296
        cases z3296
        show zL zrx zi _ 166 27 [(0, _), (1, _), (2, _)] [_] _ _ _
        refine zLiret vr_166_27 rfl (fun x3297 e3297 => ?_)
        cases e3297
        first
          | exact ⟨_, _, rfl, t0, Or.inr ⟨fun z => in_n (x := f) (hi := 3) (m := 4) (by decide) c3293 z.1, gn3296⟩⟩
          | exact ⟨_, _, rfl, t0, Or.inr ⟨fun z => isr_n h0c (Decidable.not_not.mp c3260) z.2, gn3296⟩⟩
      · obtain ⟨-, z⟩ := q3296
        cases z
    · cases e3293
      have c3293 := ndc q3293
      have rf4 : iN 4 f := in_y (x := f) (hi := 3) (m := 4) (by decide) c3293
      refine zSaload (m := 1) (k := 0) vr_166_14 rfl rfl rfl ?_
      refine zSiload (m := 1) (k := 2) vr_166_15 rfl rfl rfl (fun x3299 e3299 => ?_)
      cases e3299
      refine zScall vr_166_16 rfl rfl rfl (fun m3300 _ => C_isA _ _ _ _ hS0 hs0) (fun v3300 h3300 u3300 q3300 => ?_) (fun E3300 h3300 u3300 q3300 => ?_)
      · obtain ⟨eh3300, z3300⟩ := q3300
        replace eh3300 := eh3300.symm
        subst eh3300
        cases z3300
        show zL zrx zi _ 166 19 [(0, _), (1, _), (2, _)] [_] _ _ _
        refine zSb1 (f := fun x => decide (¬ x = 0)) (off := 9) (t := 28) vr_166_19 rfl rfl rfl (fun x3301 e3301 q3301 => ?_) (fun x3301 e3301 q3301 => ?_)
        · cases e3301
          have c3301 := of_decide_eq_true q3301
          have ra := isr_y h0c c3301
          obtain ⟨A, hA1, lA⟩ := hA b.toNatClampNeg (by
            obtain ⟨a1, a2⟩ := ra
            show b.toInt.toNat < cnt.toInt.toNat
            omega)
          have hq0 : gF k3288 el b.toNatClampNeg = some (.ref A) := (f0 el _ (fun z => h213 z.1)).trans hA1
          have i9 : iv k3288 A 9 = iv h A 9 := iv_eq (f0 A 9 (by omega))
          have ip : iv k3288 236 f.toNatClampNeg = iv h 236 f.toNatClampNeg := iv_eq (f0 236 _ (by omega))
          refine zSaload (m := 1) (k := 0) vr_166_28 rfl rfl rfl ?_
          refine zSiload (m := 1) (k := 2) vr_166_29 rfl rfl rfl (fun x3303 e3303 => ?_)
          cases e3303
          refine zScall vr_166_30 rfl rfl rfl (fun m3304 _ => C_isB _ _ _ _ hS0 hL0 hs0 hq0) (fun v3304 h3304 u3304 q3304 => ?_) (fun E3304 h3304 u3304 q3304 => ?_)
          · obtain ⟨eh3304, z3304⟩ := q3304
            replace eh3304 := eh3304.symm
            subst eh3304
            cases z3304
            show zL zrx zi _ 166 33 [(0, _), (1, _), (2, _)] [_] _ _ _
            refine zSb1 (f := fun x => decide (x = 0)) (off := 13) (t := 46) vr_166_33 rfl rfl rfl (fun x3305 e3305 q3305 => ?_) (fun x3305 e3305 q3305 => ?_)
            · cases e3305
              have c3305 := of_decide_eq_true q3305
              refine zSaload (m := 1) (k := 0) vr_166_46 rfl rfl rfl ?_
              refine zSp0 (pc' := 48) (st' := .int (2) :: _) vr_166_47 rfl rfl ?_
              refine zScall vr_166_48 rfl rfl rfl (fun m3308 _ => C_no _ _ _ _ _) (fun v3308 h3308 u3308 q3308 => ?_) (fun E3308 h3308 u3308 q3308 => ?_)
              · obtain ⟨gn3308, z3308⟩ := q3308
                cases z3308
                show zL zrx zi _ 166 51 [(0, _), (1, _), (2, _)] [_] _ _ _
                refine zLiret vr_166_51 rfl (fun x3309 e3309 => ?_)
                cases e3309
                first
                  | (refine ⟨_, _, rfl, t0, Or.inl ⟨⟨rf4, ra⟩, A, hA1, Or.inr ⟨fun z => ?_, gn3308⟩⟩⟩
                     have y := c3305
                     rw [i9, if_pos z.1] at y
                     exact absurd y (by decide))
                  | (refine ⟨_, _, rfl, t0, Or.inl ⟨⟨rf4, ra⟩, A, hA1, Or.inr ⟨fun z => ?_, gn3308⟩⟩⟩
                     exact c3211 (by rw [← iv_of g3209, ip]; exact z.2))
              · obtain ⟨-, z⟩ := q3308
                cases z
            · cases e3305
              have c3305 := ndc q3305
              refine zSaload (m := 1) (k := 0) vr_166_36 rfl rfl rfl ?_
              refine zLget vr_166_37 rfl (fun p3311 w3311 e3311 t3311 g3311 => ?_)
              cases e3311
              first | (rw [(st_213_14 hS0)] at g3311; cases g3311) | skip
              refine zSiload (m := 1) (k := 1) vr_166_40 rfl rfl rfl (fun x3312 e3312 => ?_)
              cases e3312
              refine zLiald vr_166_41 rfl (fun p3313 x3313 w3313 e3313 f3313 c3313 t3313 g3313 => ?_)
              cases e3313
              cases f3313
              first | (rw [(st_213_14 hS0)] at g3313; cases g3313) | skip
              refine zSp0 (pc' := 43) (st' := .int (-1) :: _) vr_166_42 rfl rfl ?_
              refine zSb2 (f := fun x y => decide (x = y)) (off := 9) (t := 52) vr_166_43 rfl rfl rfl (fun x3315 y3315 e3315 f3315 q3315 => ?_) (fun x3315 y3315 e3315 f3315 q3315 => ?_)
              · cases e3315
                cases f3315
                have c3315 := of_decide_eq_true q3315
                refine zSaload (m := 1) (k := 0) vr_166_52 rfl rfl rfl ?_
                refine zLget vr_166_53 rfl (fun p3317 w3317 e3317 t3317 g3317 => ?_)
                cases e3317
                first | (rw [(st_213_14 hS0)] at g3317; cases g3317) | skip
                refine zSiload (m := 1) (k := 1) vr_166_56 rfl rfl rfl (fun x3318 e3318 => ?_)
                cases e3318
                refine zSiload (m := 1) (k := 2) vr_166_57 rfl rfl rfl (fun x3319 e3319 => ?_)
                cases e3319
                refine zLiast vr_166_58 rfl (fun p3320 x3320 z3320 k3320 e3320 f3320 d3320 c3320 t3320 g3320 => ?_)
                cases e3320
                cases f3320
                cases d3320
                have hS1 := hS0.put g3320 (row_st (Or.inr (Or.inr (by omega))))
                refine zSp0 (pc' := 60) (st' := .int (0) :: _) vr_166_59 rfl rfl ?_
                refine zSistore (m := 1) (k := 3) vr_166_60 rfl rfl (fun x3322 e3322 => ?_)
                cases e3322
                show zL zrx zi _ 166 61 [(3, _), (0, _), (1, _), (2, _)] [] _ _ _
                refine zSaload (m := 1) (k := 0) vr_166_61 rfl rfl rfl ?_
                refine zLget vr_166_62 rfl (fun p3324 w3324 e3324 t3324 g3324 => ?_)
                cases e3324
                first | (rw [(st_213_14 hS1)] at g3324; cases g3324) | skip
                refine zSastore (m := 2) (k := 4) vr_166_65 rfl rfl ?_
                show zL zrx zi _ 166 67 [(4, _), (3, _), (0, _), (1, _), (2, _)] [] _ _ _
                refine zSaload (m := 2) (k := 4) vr_166_67 rfl rfl rfl ?_
                refine zLlen vr_166_69 rfl (fun p3327 m3327 e3327 g3327 => ?_)
                cases e3327
                have en := g3327
                rw [g3320.2.2.2, t0.2.2.2, hN] at en
                cases en
                refine zSistore (m := 2) (k := 5) vr_166_70 rfl rfl (fun x3328 e3328 => ?_)
                cases e3328
                show zL zrx zi _ 166 72 [(5, _), (4, _), (3, _), (0, _), (1, _), (2, _)] [] _ _ _
                refine zSp0 (pc' := 73) (st' := .int (0) :: _) vr_166_72 rfl rfl ?_
                refine zSistore (m := 2) (k := 6) vr_166_73 rfl rfl (fun x3330 e3330 => ?_)
                cases e3330
                show zL zrx zi _ 166 75 [(6, _), (5, _), (4, _), (3, _), (0, _), (1, _), (2, _)] [] _ _ _
                refine zL_K _ _ _ _ _ _ _ _ _ (zL_pm _ _ _ [(6, _), (3, _), (5, _), (4, _), (0, _), (1, _), (2, _), (7, _)] _ _ _ _ _ ⟨(List.forall_mem_cons.mpr ⟨List.mem_cons_self, (List.forall_mem_cons.mpr ⟨(List.mem_cons_of_mem _ (List.mem_cons_of_mem _ List.mem_cons_self)), (List.forall_mem_cons.mpr ⟨(List.mem_cons_of_mem _ (List.mem_cons_of_mem _ (List.mem_cons_of_mem _ List.mem_cons_self))), (List.forall_mem_cons.mpr ⟨(List.mem_cons_of_mem _ List.mem_cons_self), (List.forall_mem_cons.mpr ⟨(List.mem_cons_of_mem _ (List.mem_cons_of_mem _ (List.mem_cons_of_mem _ (List.mem_cons_of_mem _ List.mem_cons_self)))), (List.forall_mem_cons.mpr ⟨(List.mem_cons_of_mem _ (List.mem_cons_of_mem _ (List.mem_cons_of_mem _ (List.mem_cons_of_mem _ (List.mem_cons_of_mem _ List.mem_cons_self))))), (List.forall_mem_cons.mpr ⟨(List.mem_cons_of_mem _ (List.mem_cons_of_mem _ (List.mem_cons_of_mem _ (List.mem_cons_of_mem _ (List.mem_cons_of_mem _ (List.mem_cons_of_mem _ List.mem_cons_self)))))), (fun _ h => absurd h List.not_mem_nil)⟩)⟩)⟩)⟩)⟩)⟩)⟩), show ([6, 3, 5, 4, 0, 1, 2, 7] : List Nat).Nodup by decide⟩ (C_mpl_loop _ 0 _ .null _ (by omega) rfl)) (fun o h2 u2 q => ?_)
                obtain ⟨q1, q2⟩ := q
                subst q1
                refine ⟨_, _, q2, t0, Or.inl ⟨⟨rf4, ra⟩, A, hA1, Or.inl ⟨⟨?_, ?_⟩, g3320, rfl⟩⟩⟩
                · have y := c3305
                  rw [i9] at y
                  by_cases z : iv h A 9 = 0
                  · exact z
                  · rw [if_neg z] at y
                    exact absurd rfl y
                · rw [← ip, iv_of g3313]
                  exact c3315
              · cases e3315
                cases f3315
                have c3315 := ndc q3315
                refine zSaload (m := 1) (k := 0) vr_166_46 rfl rfl rfl ?_
                refine zSp0 (pc' := 48) (st' := .int (2) :: _) vr_166_47 rfl rfl ?_
                refine zScall vr_166_48 rfl rfl rfl (fun m3333 _ => C_no _ _ _ _ _) (fun v3333 h3333 u3333 q3333 => ?_) (fun E3333 h3333 u3333 q3333 => ?_)
                · obtain ⟨gn3333, z3333⟩ := q3333
                  cases z3333
                  show zL zrx zi _ 166 51 [(0, _), (1, _), (2, _)] [_] _ _ _
                  refine zLiret vr_166_51 rfl (fun x3334 e3334 => ?_)
                  cases e3334
                  first
                    | (refine ⟨_, _, rfl, t0, Or.inl ⟨⟨rf4, ra⟩, A, hA1, Or.inr ⟨fun z => ?_, gn3333⟩⟩⟩
                       have y := c3305
                       rw [i9, if_pos z.1] at y
                       exact absurd y (by decide))
                    | (refine ⟨_, _, rfl, t0, Or.inl ⟨⟨rf4, ra⟩, A, hA1, Or.inr ⟨fun z => ?_, gn3333⟩⟩⟩
                       exact c3315 (by rw [← iv_of g3313, ip]; exact z.2))
                · obtain ⟨-, z⟩ := q3333
                  cases z
          · obtain ⟨-, z⟩ := q3304
            cases z
        · cases e3301
          have c3301 := ndc q3301
          refine zSaload (m := 1) (k := 0) vr_166_22 rfl rfl rfl ?_
          refine zSp0 (pc' := 24) (st' := .int (1) :: _) vr_166_23 rfl rfl ?_
          refine zScall vr_166_24 rfl rfl rfl (fun m3337 _ => C_no _ _ _ _ _) (fun v3337 h3337 u3337 q3337 => ?_) (fun E3337 h3337 u3337 q3337 => ?_)
          · obtain ⟨gn3337, z3337⟩ := q3337
            cases z3337
            show zL zrx zi _ 166 27 [(0, _), (1, _), (2, _)] [_] _ _ _
            refine zLiret vr_166_27 rfl (fun x3338 e3338 => ?_)
            cases e3338
            first
              | exact ⟨_, _, rfl, t0, Or.inr ⟨fun z => in_n (x := f) (hi := 3) (m := 4) (by decide) c3293 z.1, gn3337⟩⟩
              | exact ⟨_, _, rfl, t0, Or.inr ⟨fun z => isr_n h0c (Decidable.not_not.mp c3301) z.2, gn3337⟩⟩
          · obtain ⟨-, z⟩ := q3337
            cases z
      · obtain ⟨-, z⟩ := q3300
        cases z
  · obtain ⟨-, z⟩ := q3292
    cases z
set_option maxRecDepth 20000 in
theorem C_mvo_loop {h : List zC} {x y m : Int32} {A : Nat} (hS : Stc h) (hm : gF h A 0 = some (.int m)) (lA : 239 ≤ A) : ∀ (n k : Nat) (hk : List zC) (u : Nat), k ≤ 4 → rLM m.toNatClampNeg h hk x k → zL zrx zi n 170 91 [(4, .int (Int32.ofNat k)), (3, .ref A), (2, .int y), (0, .ref 213), (1, .int x)] [] hk u (fun o h2 _ => o = .inl (some (.int y)) ∧ rLM m.toNatClampNeg h h2 x 4)
  | 0, _, _, _ => fun _ _ => trivial
  | n + 1, k, hk, u => fun k4 r => by
    have kk := (toNat_ofNat (m := k) (by omega))
    have z4 : (4 : Int32).toInt = 4 := rfl
    have hS2 : Stc hk := r.stc hS (fun f hf => row_st (Or.inr (Or.inr (by omega)))) (fun f hf => row_st (Or.inr (Or.inr (by omega))))
    refine zLp vr_170_91 rfl rfl ?_
    refine zSp0 (pc' := 94) (st' := .int (4) :: _) vr_170_93 rfl rfl ?_
    refine zSb2 (f := fun x y => decide (y ≤ x)) (off := 62) (t := 156) vr_170_94 rfl rfl rfl (fun x3340 y3340 e3340 f3340 q3340 => ?_) (fun x3340 y3340 e3340 f3340 q3340 => ?_)
    · cases e3340
      cases f3340
      have c3340 := of_decide_eq_true q3340
      refine zSiload (m := 1) (k := 2) vr_170_156 rfl rfl rfl (fun x3341 e3341 => ?_)
      cases e3341
      refine zLiret vr_170_157 rfl (fun x3342 e3342 => ?_)
      cases e3342
      have e : k = 4 := by
        have y := c3340
        rw [i32_le, kk.2, z4] at y
        omega
      subst e
      exact ⟨rfl, r⟩
    · cases e3340
      cases f3340
      have c3340 := ndc q3340
      have k4 : k < 4 := by
        have y := c3340
        rw [i32_le, kk.2, z4] at y
        omega
      have p0 : gF hk 236 k = gF h 236 k := r.2.2.1 _ _ (fun f hf _ => ⟨by dsimp only; omega, by dsimp only; omega⟩)
      have a0 : gF hk A 0 = some (.int m) := (r.2.2.1 _ _ (fun f hf _ => ⟨by dsimp only; omega, by dsimp only; omega⟩)).trans hm
      have m0 : gF hk (231 + k) m.toNatClampNeg = gF h (231 + k) m.toNatClampNeg := r.2.2.1 _ _ (fun f hf _ => ⟨by dsimp only; omega, by dsimp only; omega⟩)
      refine zSaload (m := 1) (k := 0) vr_170_97 rfl rfl rfl ?_
      refine zLget vr_170_98 rfl (fun p3344 w3344 e3344 t3344 g3344 => ?_)
      cases e3344
      first | (rw [(st_213_14 hS2)] at g3344; cases g3344) | (rw [(st_213_14 hS2)] at g3344; cases g3344) | (rw [f12] at g3344; cases g3344) | (rw [f30] at g3344; cases g3344) | (rw [m1] at g3344; cases g3344) | skip
      refine zSiload (m := 2) (k := 4) vr_170_101 rfl rfl rfl (fun x3345 e3345 => ?_)
      cases e3345
      refine zLiald vr_170_103 rfl (fun p3346 x3346 w3346 e3346 f3346 c3346 t3346 g3346 => ?_)
      cases e3346
      cases f3346
      first | (rw [(st_213_14 hS2)] at g3346; cases g3346) | (rw [(st_213_14 hS2)] at g3346; cases g3346) | (rw [f12] at g3346; cases g3346) | (rw [f30] at g3346; cases g3346) | (rw [m1] at g3346; cases g3346) | skip
      have g103 := g3346
      rw [kk.1] at g103
      refine zSiload (m := 1) (k := 1) vr_170_104 rfl rfl rfl (fun x3347 e3347 => ?_)
      cases e3347
      refine zSb2 (f := fun x y => decide (x = y)) (off := 6) (t := 111) vr_170_105 rfl rfl rfl (fun x3348 y3348 e3348 f3348 q3348 => ?_) (fun x3348 y3348 e3348 f3348 q3348 => ?_)
      · cases e3348
        cases f3348
        have c3348 := of_decide_eq_true q3348
        refine zSaload (m := 1) (k := 0) vr_170_111 rfl rfl rfl ?_
        refine zLget vr_170_112 rfl (fun p3350 w3350 e3350 t3350 g3350 => ?_)
        cases e3350
        first | (rw [(st_213_14 hS2)] at g3350; cases g3350) | (rw [(st_213_14 hS2)] at g3350; cases g3350) | (rw [f12] at g3350; cases g3350) | (rw [f30] at g3350; cases g3350) | (rw [m1] at g3350; cases g3350) | skip
        refine zSiload (m := 2) (k := 4) vr_170_115 rfl rfl rfl (fun x3351 e3351 => ?_)
        cases e3351
        refine zSp0 (pc' := 118) (st' := .int (-1) :: _) vr_170_117 rfl rfl ?_
        refine zLiast vr_170_118 rfl (fun p3353 x3353 z3353 k3353 e3353 f3353 d3353 c3353 t3353 g3353 => ?_)
        cases e3353
        cases f3353
        cases d3353
        have g118 := g3353
        rw [kk.1] at g118
        have hS3 := hS2.put g118 (row_st (Or.inr (Or.inr (by omega))))
        have f12 := st_213_12 hS3
        have f30 : gF k3353 230 (Int32.ofNat k).toNatClampNeg = some (.ref (231 + k)) := by
          rw [kk.1]
          exact st_mr hS3 k4
        have m1 : gF k3353 A 0 = some (.int m) := (g118.2.1 A 0).trans ((if_neg (by omega)).trans a0)
        refine zSaload (m := 1) (k := 0) vr_170_119 rfl rfl rfl ?_
        refine zLget vr_170_120 rfl (fun p3355 w3355 e3355 t3355 g3355 => ?_)
        cases e3355
        first | (rw [(st_213_14 hS2)] at g3355; cases g3355) | (rw [(st_213_14 hS2)] at g3355; cases g3355) | (rw [f12] at g3355; cases g3355) | (rw [f30] at g3355; cases g3355) | (rw [m1] at g3355; cases g3355) | skip
        refine zSiload (m := 2) (k := 4) vr_170_123 rfl rfl rfl (fun x3356 e3356 => ?_)
        cases e3356
        refine zLaald vr_170_125 rfl (fun p3357 x3357 w3357 e3357 f3357 c3357 t3357 g3357 => ?_)
        cases e3357
        cases f3357
        first | (rw [(st_213_14 hS2)] at g3357; cases g3357) | (rw [(st_213_14 hS2)] at g3357; cases g3357) | (rw [f12] at g3357; cases g3357) | (rw [f30] at g3357; cases g3357) | (rw [m1] at g3357; cases g3357) | skip
        refine zSaload (m := 1) (k := 3) vr_170_126 rfl rfl rfl ?_
        refine zLget vr_170_127 rfl (fun p3359 w3359 e3359 t3359 g3359 => ?_)
        cases e3359
        first | (rw [(st_213_14 hS2)] at g3359; cases g3359) | (rw [(st_213_14 hS2)] at g3359; cases g3359) | (rw [f12] at g3359; cases g3359) | (rw [f30] at g3359; cases g3359) | (rw [m1] at g3359; cases g3359) | skip
        refine zSp0 (pc' := 132) (st' := .int (-5) :: _) vr_170_130 rfl rfl ?_
        refine zSaload (m := 1) (k := 0) vr_170_132 rfl rfl rfl ?_
        refine zLget vr_170_133 rfl (fun p3362 w3362 e3362 t3362 g3362 => ?_)
        cases e3362
        first | (rw [(st_213_14 hS2)] at g3362; cases g3362) | (rw [(st_213_14 hS2)] at g3362; cases g3362) | (rw [f12] at g3362; cases g3362) | (rw [f30] at g3362; cases g3362) | (rw [m1] at g3362; cases g3362) | skip
        refine zSiload (m := 2) (k := 4) vr_170_136 rfl rfl rfl (fun x3363 e3363 => ?_)
        cases e3363
        refine zLaald vr_170_138 rfl (fun p3364 x3364 w3364 e3364 f3364 c3364 t3364 g3364 => ?_)
        cases e3364
        cases f3364
        first | (rw [(st_213_14 hS2)] at g3364; cases g3364) | (rw [(st_213_14 hS2)] at g3364; cases g3364) | (rw [f12] at g3364; cases g3364) | (rw [f30] at g3364; cases g3364) | (rw [m1] at g3364; cases g3364) | skip
        refine zSaload (m := 1) (k := 3) vr_170_139 rfl rfl rfl ?_
        refine zLget vr_170_140 rfl (fun p3366 w3366 e3366 t3366 g3366 => ?_)
        cases e3366
        first | (rw [(st_213_14 hS2)] at g3366; cases g3366) | (rw [(st_213_14 hS2)] at g3366; cases g3366) | (rw [f12] at g3366; cases g3366) | (rw [f30] at g3366; cases g3366) | (rw [m1] at g3366; cases g3366) | skip
        refine zLiald vr_170_143 rfl (fun p3367 x3367 w3367 e3367 f3367 c3367 t3367 g3367 => ?_)
        cases e3367
        cases f3367
        first | (rw [(st_213_14 hS2)] at g3367; cases g3367) | (rw [(st_213_14 hS2)] at g3367; cases g3367) | (rw [f12] at g3367; cases g3367) | (rw [f30] at g3367; cases g3367) | (rw [m1] at g3367; cases g3367) | skip
        refine zSp0 (pc' := 145) (st' := .int (1) :: _) vr_170_144 rfl rfl ?_
        refine zS2 (f := fun x y => .int (x - y)) vr_170_145 rfl rfl (fun x3369 y3369 e3369 f3369 => ?_)
        cases e3369
        cases f3369
        refine zScall vr_170_146 rfl rfl rfl (fun m3370 _ => C_mxI _ _ _ _ _) (fun v3370 h3370 u3370 q3370 => ?_) (fun E3370 h3370 u3370 q3370 => ?_)
        · obtain ⟨eh3370, z3370⟩ := q3370
          subst eh3370
          cases z3370
          show zL zrx zi _ 170 149 [(4, _), (3, _), (2, _), (0, _), (1, _)] [_, _, _] _ _ _
          refine zLiast vr_170_149 rfl (fun p3371 x3371 z3371 k3371 e3371 f3371 d3371 c3371 t3371 g3371 => ?_)
          cases e3371
          cases f3371
          cases d3371
          refine zSiinc vr_170_150 rfl rfl (fun x3372 e3372 => ?_)
          cases e3372
          show zL zrx zi _ 170 153 [(4, _), (3, _), (2, _), (0, _), (1, _)] [] _ _ _
          refine zSgo (t := 91) vr_170_153 rfl rfl ?_
          rw [ofNat_succ]
          have e3 : iv h 236 k = x := by
            rw [iv_of (p0.symm.trans g103)]
            exact c3348
          have g143 := g3367
          rw [g118.2.1, if_neg (by omega), m0] at g143
          refine zL_pm _ _ _ [(4, _), (3, _), (2, _), (0, _), (1, _)] _ _ _ _ _ ⟨(List.forall_mem_cons.mpr ⟨List.mem_cons_self, (List.forall_mem_cons.mpr ⟨(List.mem_cons_of_mem _ List.mem_cons_self), (List.forall_mem_cons.mpr ⟨(List.mem_cons_of_mem _ (List.mem_cons_of_mem _ List.mem_cons_self)), (List.forall_mem_cons.mpr ⟨(List.mem_cons_of_mem _ (List.mem_cons_of_mem _ (List.mem_cons_of_mem _ List.mem_cons_self))), (List.forall_mem_cons.mpr ⟨(List.mem_cons_of_mem _ (List.mem_cons_of_mem _ (List.mem_cons_of_mem _ (List.mem_cons_of_mem _ List.mem_cons_self)))), (fun _ h => absurd h List.not_mem_nil)⟩)⟩)⟩)⟩)⟩), show ([4, 3, 2, 0, 1] : List Nat).Nodup by decide⟩ (C_mvo_loop hS hm lA n (k + 1) _ _ (by omega) (r.step e3 g118 g3371 ?_ (fun f hf => by omega) (fun f g hf hg => by omega) (fun f hf => by omega)))
          rw [iv_of g143, mxI_comm]
        · obtain ⟨-, z⟩ := q3370
          cases z
      · cases e3348
        cases f3348
        have c3348 := ndc q3348
        refine zSgo (t := 150) vr_170_108 rfl rfl ?_
        refine zSiinc vr_170_150 rfl rfl (fun x3375 e3375 => ?_)
        cases e3375
        show zL zrx zi _ 170 153 [(4, _), (3, _), (2, _), (0, _), (1, _)] [] _ _ _
        refine zSgo (t := 91) vr_170_153 rfl rfl ?_
        rw [ofNat_succ]
        have hn : ¬ iv h 236 k = x := fun z => c3348 (by
          rw [← iv_of (p0.symm.trans g103)]
          exact z)
        exact zL_pm _ _ _ [(4, _), (3, _), (2, _), (0, _), (1, _)] _ _ _ _ _ ⟨(List.forall_mem_cons.mpr ⟨List.mem_cons_self, (List.forall_mem_cons.mpr ⟨(List.mem_cons_of_mem _ List.mem_cons_self), (List.forall_mem_cons.mpr ⟨(List.mem_cons_of_mem _ (List.mem_cons_of_mem _ List.mem_cons_self)), (List.forall_mem_cons.mpr ⟨(List.mem_cons_of_mem _ (List.mem_cons_of_mem _ (List.mem_cons_of_mem _ List.mem_cons_self))), (List.forall_mem_cons.mpr ⟨(List.mem_cons_of_mem _ (List.mem_cons_of_mem _ (List.mem_cons_of_mem _ (List.mem_cons_of_mem _ List.mem_cons_self)))), (fun _ h => absurd h List.not_mem_nil)⟩)⟩)⟩)⟩)⟩), show ([4, 3, 2, 0, 1] : List Nat).Nodup by decide⟩ (C_mvo_loop hS hm lA n (k + 1) _ _ (by omega) (r.skip hn))
abbrev Q_mvote (el : Nat) (cnt : Int32) (x : Int32) (h : List zC) : zK := fun o h2 _ => ∃ (y : Int32) (h0 : List zC), o = .inl (some (.int y)) ∧ hPut h h0 213 0 (.int 0) ∧
  ((iN cnt.toInt x ∧ ∃ A : Nat, gF h el x.toNatClampNeg = some (.ref A) ∧ (iv h A 9 = 0 ∧ y = hcF (fun i => bMs (fun f => iv h0 (227 + i) f) (fun f => byM 0 (iv h0 236 f) x (lkM h0 f A)) 4) 3 ∧ (∃ (h1 h3 : List zC) (m : Int32), hPut h0 h1 A 9 (.int (if 2 ≤ y then 1 else 3)) ∧ hPut h1 h3 A 10 (.int (if 2 ≤ y then iv h 213 1 + 30 else -1)) ∧ gF h3 A 0 = some (.int m) ∧ rLM m.toNatClampNeg h3 h2 x 4) ∨ ¬ iv h A 9 = 0 ∧ hPut h0 h2 213 0 (.int 2))) ∨ (¬ iN cnt.toInt x ∧ hPut h0 h2 213 0 (.int 1)))
theorem C_mvote (n : Nat) (x : Int32) (h : List zC) (u : Nat) {el : Nat} {cnt : Int32} (hS : Stc h) (hL : gF h 225 1 = some (.ref el)) (hs : gF h 225 2 = some (.int cnt)) (h0c : 0 ≤ cnt.toInt) (h213 : ¬ el = 213) (hA : ∀ k, k < cnt.toNatClampNeg → ∃ A : Nat, gF h el k = some (.ref A) ∧ 239 ≤ A) (hm : iN cnt.toInt x → ∀ A : Nat, gF h el x.toNatClampNeg = some (.ref A) → ∃ m : Int32, gF h A 0 = some (.int m)) : zL zrx zi n 170 0 [(0, .ref 213), (1, .int x)] [] h u (Q_mvote el cnt x h) := by
  refine zSaload (m := 1) (k := 0) vr_170_0 rfl rfl rfl ?_
  refine zSp0 (pc' := 2) (st' := .int (0) :: _) vr_170_1 rfl rfl ?_
  refine zLput vr_170_2 rfl (fun p3379 k3379 e3379 t3379 g3379 => ?_)
  cases e3379
  have t0 := g3379
  have hS0 := hS.thr t0
  have f0 : ∀ q k, ¬ (q = 213 ∧ k = 0) → gF k3379 q k = gF h q k := fun q k z => by rw [t0.2.1, if_neg z]
  have hs0 := (f0 225 2 (by omega)).trans hs
  have hL0 := (f0 225 1 (by omega)).trans hL
  refine zSaload (m := 1) (k := 0) vr_170_5 rfl rfl rfl ?_
  refine zSiload (m := 1) (k := 1) vr_170_6 rfl rfl rfl (fun x3381 e3381 => ?_)
  cases e3381
  refine zScall vr_170_7 rfl rfl rfl (fun m3382 _ => C_isA _ _ _ _ hS0 hs0) (fun v3382 h3382 u3382 q3382 => ?_) (fun E3382 h3382 u3382 q3382 => ?_)
  · obtain ⟨eh3382, z3382⟩ := q3382
    replace eh3382 := eh3382.symm
    subst eh3382
    cases z3382
    show zL zrx zi _ 170 10 [(0, _), (1, _)] [_] _ _ _
    refine zSb1 (f := fun x => decide (¬ x = 0)) (off := 9) (t := 19) vr_170_10 rfl rfl rfl (fun x3383 e3383 q3383 => ?_) (fun x3383 e3383 q3383 => ?_)
    · cases e3383
      have c3383 := of_decide_eq_true q3383
      have ra := isr_y h0c c3383
      obtain ⟨A, hA1, lA⟩ := hA x.toNatClampNeg (by
        obtain ⟨a1, a2⟩ := ra
        show x.toInt.toNat < cnt.toInt.toNat
        omega)
      have hq0 : gF k3379 el x.toNatClampNeg = some (.ref A) := (f0 el _ (fun z => h213 z.1)).trans hA1
      have i9 : iv k3379 A 9 = iv h A 9 := iv_eq (f0 A 9 (by omega))
      refine zSaload (m := 1) (k := 0) vr_170_19 rfl rfl rfl ?_
      refine zSiload (m := 1) (k := 1) vr_170_20 rfl rfl rfl (fun x3385 e3385 => ?_)
      cases e3385
      refine zScall vr_170_21 rfl rfl rfl (fun m3386 _ => C_isB _ _ _ _ hS0 hL0 hs0 hq0) (fun v3386 h3386 u3386 q3386 => ?_) (fun E3386 h3386 u3386 q3386 => ?_)
      · obtain ⟨eh3386, z3386⟩ := q3386
        replace eh3386 := eh3386.symm
        subst eh3386
        cases z3386
        show zL zrx zi _ 170 24 [(0, _), (1, _)] [_] _ _ _
        refine zSb1 (f := fun x => decide (¬ x = 0)) (off := 9) (t := 33) vr_170_24 rfl rfl rfl (fun x3387 e3387 q3387 => ?_) (fun x3387 e3387 q3387 => ?_)
        · cases e3387
          have c3387 := of_decide_eq_true q3387
          refine zSaload (m := 1) (k := 0) vr_170_33 rfl rfl rfl ?_
          refine zSiload (m := 1) (k := 1) vr_170_34 rfl rfl rfl (fun x3389 e3389 => ?_)
          cases e3389
          refine zSp0 (pc' := 36) (st' := .int (0) :: _) vr_170_35 rfl rfl ?_
          refine zScall vr_170_36 rfl rfl rfl (fun m3391 _ => C_hfo _ _ _ _ _ hS0 hL0 hs0 hq0) (fun v3391 h3391 u3391 q3391 => ?_) (fun E3391 h3391 u3391 q3391 => ?_)
          · obtain ⟨eh3391, z3391⟩ := q3391
            replace eh3391 := eh3391.symm
            subst eh3391
            cases z3391
            show zL zrx zi _ 170 39 [(0, _), (1, _)] [_] _ _ _
            refine zSistore (m := 1) (k := 2) vr_170_39 rfl rfl (fun x3392 e3392 => ?_)
            cases e3392
            show zL zrx zi _ 170 40 [(2, _), (0, _), (1, _)] [] _ _ _
            refine zSaload (m := 1) (k := 0) vr_170_40 rfl rfl rfl ?_
            refine zLget vr_170_41 rfl (fun p3394 w3394 e3394 t3394 g3394 => ?_)
            cases e3394
            first | (rw [(st_213_9 hS0)] at g3394; cases g3394) | skip
            refine zSiload (m := 1) (k := 1) vr_170_44 rfl rfl rfl (fun x3395 e3395 => ?_)
            cases e3395
            refine zScall vr_170_45 rfl rfl rfl (fun m3396 _ => C_get _ _ _ _ _ hL0 hs0) (fun v3396 h3396 u3396 q3396 => ?_) (fun E3396 h3396 u3396 q3396 => ?_)
            · obtain ⟨eh3396, y3396, w3396, z3396, k3396⟩ := q3396
              replace eh3396 := eh3396.symm
              subst eh3396
              cases z3396
              show zL zrx zi _ 170 50 [(2, _), (0, _), (1, _)] [_] _ _ _
              refine zLcst vr_170_50 rfl (fun p3397 e3397 => ?_)
              cases e3397
              have e1 := k3396
              rw [hq0] at e1
              cases e1
              refine zSastore (m := 1) (k := 3) vr_170_53 rfl rfl ?_
              show zL zrx zi _ 170 54 [(3, _), (2, _), (0, _), (1, _)] [] _ _ _
              refine zSaload (m := 1) (k := 3) vr_170_54 rfl rfl rfl ?_
              refine zSiload (m := 1) (k := 2) vr_170_55 rfl rfl rfl (fun x3400 e3400 => ?_)
              cases e3400
              refine zSp0 (pc' := 57) (st' := .int (2) :: _) vr_170_56 rfl rfl ?_
              refine zSb2 (f := fun x y => decide (x < y)) (off := 7) (t := 64) vr_170_57 rfl rfl rfl (fun x3402 y3402 e3402 f3402 q3402 => ?_) (fun x3402 y3402 e3402 f3402 q3402 => ?_)
              · cases e3402
                cases f3402
                have c3402 := of_decide_eq_true q3402
                refine zSp0 (pc' := 65) (st' := .int (3) :: _) vr_170_64 rfl rfl ?_
                refine zLput vr_170_65 rfl (fun p3404 k3404 e3404 t3404 g3404 => ?_)
                cases e3404
                refine zSaload (m := 1) (k := 3) vr_170_68 rfl rfl rfl ?_
                refine zSiload (m := 1) (k := 2) vr_170_69 rfl rfl rfl (fun x3406 e3406 => ?_)
                cases e3406
                refine zSp0 (pc' := 71) (st' := .int (2) :: _) vr_170_70 rfl rfl ?_
                refine zSb2 (f := fun x y => decide (x < y)) (off := 13) (t := 84) vr_170_71 rfl rfl rfl (fun x3408 y3408 e3408 f3408 q3408 => ?_) (fun x3408 y3408 e3408 f3408 q3408 => ?_)
                · cases e3408
                  cases f3408
                  have c3408 := of_decide_eq_true q3408
                  refine zSp0 (pc' := 85) (st' := .int (-1) :: _) vr_170_84 rfl rfl ?_
                  refine zLput vr_170_85 rfl (fun p3410 k3410 e3410 t3410 g3410 => ?_)
                  cases e3410
                  have hS1 := hS0.put g3404 (new_st lA)
                  have hS2 := hS1.put g3410 (new_st lA)
                  obtain ⟨m, hm⟩ := hm ra A hA1
                  have hm2 : gF k3410 A 0 = some (.int m) := by
                    rw [g3410.2.1, if_neg (by omega), g3404.2.1, if_neg (by omega), f0 A 0 (by omega)]
                    exact hm
                  have dd : 2 ≤ hcF (fun i => bMs (fun f => iv k3379 (227 + i) f) (fun f => byM 0 (iv k3379 236 f) x (lkM k3379 f A)) 4) 3 → gF k3404 213 1 = gF h 213 1 := fun _ => by
                    rw [g3404.2.1, if_neg (by omega), f0 213 1 (by omega)]
                  refine zSp0 (pc' := 89) (st' := .int (0) :: _) vr_170_88 rfl rfl ?_
                  refine zSistore (m := 2) (k := 4) vr_170_89 rfl rfl (fun x3412 e3412 => ?_)
                  cases e3412
                  show zL zrx zi _ 170 91 [(4, _), (3, _), (2, _), (0, _), (1, _)] [] _ _ _
                  refine zL_K _ _ _ _ _ _ _ _ _ (zL_pm _ _ _ [(4, _), (3, _), (2, _), (0, _), (1, _)] _ _ _ _ _ ⟨(List.forall_mem_cons.mpr ⟨List.mem_cons_self, (List.forall_mem_cons.mpr ⟨(List.mem_cons_of_mem _ List.mem_cons_self), (List.forall_mem_cons.mpr ⟨(List.mem_cons_of_mem _ (List.mem_cons_of_mem _ List.mem_cons_self)), (List.forall_mem_cons.mpr ⟨(List.mem_cons_of_mem _ (List.mem_cons_of_mem _ (List.mem_cons_of_mem _ List.mem_cons_self))), (List.forall_mem_cons.mpr ⟨(List.mem_cons_of_mem _ (List.mem_cons_of_mem _ (List.mem_cons_of_mem _ (List.mem_cons_of_mem _ List.mem_cons_self)))), (fun _ h => absurd h List.not_mem_nil)⟩)⟩)⟩)⟩)⟩), show ([4, 3, 2, 0, 1] : List Nat).Nodup by decide⟩ (C_mvo_loop hS2 hm2 lA _ 0 _ _ (by omega) rLs.refl)) (fun o h2 u2 q => ?_)
                  obtain ⟨q1, q2⟩ := q
                  refine ⟨_, _, q1, t0, Or.inl ⟨ra, A, hA1, Or.inl ⟨?_, rfl, k3404, k3410, m, ?_, ?_, hm2, q2⟩⟩⟩
                  · have y := c3387
                    rw [i9] at y
                    by_cases z : iv h A 9 = 0
                    · exact z
                    · rw [if_neg z] at y
                      exact absurd rfl y
                  · first
                      | (rw [if_pos (Int32.not_lt.mp c3402)]
                         exact g3404)
                      | (rw [if_neg (Int32.not_le.mpr c3402)]
                         exact g3404)
                  · first
                      | (have le := Int32.not_lt.mp c3408
                         rw [if_pos le, ← iv_eq (dd le), iv_of g3170]
                         exact g3410)
                      | (rw [if_neg (Int32.not_le.mpr c3408)]
                         exact g3410)
                · cases e3408
                  cases f3408
                  have c3408 := ndc q3408
                  refine zSaload (m := 1) (k := 0) vr_170_74 rfl rfl rfl ?_
                  refine zLget vr_170_75 rfl (fun p3414 w3414 e3414 t3414 g3414 => ?_)
                  cases e3414
                  first | (rw [(st_213_9 hS0)] at g3414; cases g3414) | skip
                  refine zSp0 (pc' := 80) (st' := .int (30) :: _) vr_170_78 rfl rfl ?_
                  refine zS2 (f := fun x y => .int (x + y)) vr_170_80 rfl rfl (fun x3416 y3416 e3416 f3416 => ?_)
                  cases e3416
                  cases f3416
                  refine zSgo (t := 85) vr_170_81 rfl rfl ?_
                  refine zLput vr_170_85 rfl (fun p3418 k3418 e3418 t3418 g3418 => ?_)
                  cases e3418
                  have hS1 := hS0.put g3404 (new_st lA)
                  have hS2 := hS1.put g3418 (new_st lA)
                  obtain ⟨m, hm⟩ := hm ra A hA1
                  have hm2 : gF k3418 A 0 = some (.int m) := by
                    rw [g3418.2.1, if_neg (by omega), g3404.2.1, if_neg (by omega), f0 A 0 (by omega)]
                    exact hm
                  have dd : 2 ≤ hcF (fun i => bMs (fun f => iv k3379 (227 + i) f) (fun f => byM 0 (iv k3379 236 f) x (lkM k3379 f A)) 4) 3 → gF k3404 213 1 = gF h 213 1 := fun _ => by
                    rw [g3404.2.1, if_neg (by omega), f0 213 1 (by omega)]
                  refine zSp0 (pc' := 89) (st' := .int (0) :: _) vr_170_88 rfl rfl ?_
                  refine zSistore (m := 2) (k := 4) vr_170_89 rfl rfl (fun x3420 e3420 => ?_)
                  cases e3420
                  show zL zrx zi _ 170 91 [(4, _), (3, _), (2, _), (0, _), (1, _)] [] _ _ _
                  refine zL_K _ _ _ _ _ _ _ _ _ (zL_pm _ _ _ [(4, _), (3, _), (2, _), (0, _), (1, _)] _ _ _ _ _ ⟨(List.forall_mem_cons.mpr ⟨List.mem_cons_self, (List.forall_mem_cons.mpr ⟨(List.mem_cons_of_mem _ List.mem_cons_self), (List.forall_mem_cons.mpr ⟨(List.mem_cons_of_mem _ (List.mem_cons_of_mem _ List.mem_cons_self)), (List.forall_mem_cons.mpr ⟨(List.mem_cons_of_mem _ (List.mem_cons_of_mem _ (List.mem_cons_of_mem _ List.mem_cons_self))), (List.forall_mem_cons.mpr ⟨(List.mem_cons_of_mem _ (List.mem_cons_of_mem _ (List.mem_cons_of_mem _ (List.mem_cons_of_mem _ List.mem_cons_self)))), (fun _ h => absurd h List.not_mem_nil)⟩)⟩)⟩)⟩)⟩), show ([4, 3, 2, 0, 1] : List Nat).Nodup by decide⟩ (C_mvo_loop hS2 hm2 lA _ 0 _ _ (by omega) rLs.refl)) (fun o h2 u2 q => ?_)
                  obtain ⟨q1, q2⟩ := q
                  refine ⟨_, _, q1, t0, Or.inl ⟨ra, A, hA1, Or.inl ⟨?_, rfl, k3404, k3418, m, ?_, ?_, hm2, q2⟩⟩⟩
                  · have y := c3387
                    rw [i9] at y
                    by_cases z : iv h A 9 = 0
                    · exact z
                    · rw [if_neg z] at y
                      exact absurd rfl y
                  · first
                      | (rw [if_pos (Int32.not_lt.mp c3402)]
                         exact g3404)
                      | (rw [if_neg (Int32.not_le.mpr c3402)]
                         exact g3404)
                  · first
                      | (have le := Int32.not_lt.mp c3408
                         rw [if_pos le, ← iv_eq (dd le), iv_of g3414]
                         exact g3418)
                      | (rw [if_neg (Int32.not_le.mpr c3408)]
                         exact g3418)
              · cases e3402
                cases f3402
                have c3402 := ndc q3402
                refine zSp0 (pc' := 61) (st' := .int (1) :: _) vr_170_60 rfl rfl ?_
                refine zSgo (t := 65) vr_170_61 rfl rfl ?_
                refine zLput vr_170_65 rfl (fun p3423 k3423 e3423 t3423 g3423 => ?_)
                cases e3423
                refine zSaload (m := 1) (k := 3) vr_170_68 rfl rfl rfl ?_
                refine zSiload (m := 1) (k := 2) vr_170_69 rfl rfl rfl (fun x3425 e3425 => ?_)
                cases e3425
                refine zSp0 (pc' := 71) (st' := .int (2) :: _) vr_170_70 rfl rfl ?_
                refine zSb2 (f := fun x y => decide (x < y)) (off := 13) (t := 84) vr_170_71 rfl rfl rfl (fun x3427 y3427 e3427 f3427 q3427 => ?_) (fun x3427 y3427 e3427 f3427 q3427 => ?_)
                · cases e3427
                  cases f3427
                  have c3427 := of_decide_eq_true q3427
                  refine zSp0 (pc' := 85) (st' := .int (-1) :: _) vr_170_84 rfl rfl ?_
                  refine zLput vr_170_85 rfl (fun p3429 k3429 e3429 t3429 g3429 => ?_)
                  cases e3429
                  have hS1 := hS0.put g3423 (new_st lA)
                  have hS2 := hS1.put g3429 (new_st lA)
                  obtain ⟨m, hm⟩ := hm ra A hA1
                  have hm2 : gF k3429 A 0 = some (.int m) := by
                    rw [g3429.2.1, if_neg (by omega), g3423.2.1, if_neg (by omega), f0 A 0 (by omega)]
                    exact hm
                  have dd : 2 ≤ hcF (fun i => bMs (fun f => iv k3379 (227 + i) f) (fun f => byM 0 (iv k3379 236 f) x (lkM k3379 f A)) 4) 3 → gF k3423 213 1 = gF h 213 1 := fun _ => by
                    rw [g3423.2.1, if_neg (by omega), f0 213 1 (by omega)]
                  refine zSp0 (pc' := 89) (st' := .int (0) :: _) vr_170_88 rfl rfl ?_
                  refine zSistore (m := 2) (k := 4) vr_170_89 rfl rfl (fun x3431 e3431 => ?_)
                  cases e3431
                  show zL zrx zi _ 170 91 [(4, _), (3, _), (2, _), (0, _), (1, _)] [] _ _ _
                  refine zL_K _ _ _ _ _ _ _ _ _ (zL_pm _ _ _ [(4, _), (3, _), (2, _), (0, _), (1, _)] _ _ _ _ _ ⟨(List.forall_mem_cons.mpr ⟨List.mem_cons_self, (List.forall_mem_cons.mpr ⟨(List.mem_cons_of_mem _ List.mem_cons_self), (List.forall_mem_cons.mpr ⟨(List.mem_cons_of_mem _ (List.mem_cons_of_mem _ List.mem_cons_self)), (List.forall_mem_cons.mpr ⟨(List.mem_cons_of_mem _ (List.mem_cons_of_mem _ (List.mem_cons_of_mem _ List.mem_cons_self))), (List.forall_mem_cons.mpr ⟨(List.mem_cons_of_mem _ (List.mem_cons_of_mem _ (List.mem_cons_of_mem _ (List.mem_cons_of_mem _ List.mem_cons_self)))), (fun _ h => absurd h List.not_mem_nil)⟩)⟩)⟩)⟩)⟩), show ([4, 3, 2, 0, 1] : List Nat).Nodup by decide⟩ (C_mvo_loop hS2 hm2 lA _ 0 _ _ (by omega) rLs.refl)) (fun o h2 u2 q => ?_)
                  obtain ⟨q1, q2⟩ := q
                  refine ⟨_, _, q1, t0, Or.inl ⟨ra, A, hA1, Or.inl ⟨?_, rfl, k3423, k3429, m, ?_, ?_, hm2, q2⟩⟩⟩
                  · have y := c3387
                    rw [i9] at y
                    by_cases z : iv h A 9 = 0
                    · exact z
                    · rw [if_neg z] at y
                      exact absurd rfl y
                  · first
                      | (rw [if_pos (Int32.not_lt.mp c3402)]
                         exact g3423)
                      | (rw [if_neg (Int32.not_le.mpr c3402)]
                         exact g3423)
                  · first
                      | (have le := Int32.not_lt.mp c3427
                         rw [if_pos le, ← iv_eq (dd le), iv_of g3414]
                         exact g3429)
                      | (rw [if_neg (Int32.not_le.mpr c3427)]
                         exact g3429)
                · cases e3427
                  cases f3427
                  have c3427 := ndc q3427
                  refine zSaload (m := 1) (k := 0) vr_170_74 rfl rfl rfl ?_
                  refine zLget vr_170_75 rfl (fun p3433 w3433 e3433 t3433 g3433 => ?_)
                  cases e3433
                  first | (rw [(st_213_9 hS0)] at g3433; cases g3433) | skip
                  refine zSp0 (pc' := 80) (st' := .int (30) :: _) vr_170_78 rfl rfl ?_
                  refine zS2 (f := fun x y => .int (x + y)) vr_170_80 rfl rfl (fun x3435 y3435 e3435 f3435 => ?_)
                  cases e3435
                  cases f3435
                  refine zSgo (t := 85) vr_170_81 rfl rfl ?_
                  refine zLput vr_170_85 rfl (fun p3437 k3437 e3437 t3437 g3437 => ?_)
                  cases e3437
                  have hS1 := hS0.put g3423 (new_st lA)
                  have hS2 := hS1.put g3437 (new_st lA)
                  obtain ⟨m, hm⟩ := hm ra A hA1
                  have hm2 : gF k3437 A 0 = some (.int m) := by
                    rw [g3437.2.1, if_neg (by omega), g3423.2.1, if_neg (by omega), f0 A 0 (by omega)]
                    exact hm
                  have dd : 2 ≤ hcF (fun i => bMs (fun f => iv k3379 (227 + i) f) (fun f => byM 0 (iv k3379 236 f) x (lkM k3379 f A)) 4) 3 → gF k3423 213 1 = gF h 213 1 := fun _ => by
                    rw [g3423.2.1, if_neg (by omega), f0 213 1 (by omega)]
                  refine zSp0 (pc' := 89) (st' := .int (0) :: _) vr_170_88 rfl rfl ?_
                  refine zSistore (m := 2) (k := 4) vr_170_89 rfl rfl (fun x3439 e3439 => ?_)
                  cases e3439
                  show zL zrx zi _ 170 91 [(4, _), (3, _), (2, _), (0, _), (1, _)] [] _ _ _
                  refine zL_K _ _ _ _ _ _ _ _ _ (zL_pm _ _ _ [(4, _), (3, _), (2, _), (0, _), (1, _)] _ _ _ _ _ ⟨(List.forall_mem_cons.mpr ⟨List.mem_cons_self, (List.forall_mem_cons.mpr ⟨(List.mem_cons_of_mem _ List.mem_cons_self), (List.forall_mem_cons.mpr ⟨(List.mem_cons_of_mem _ (List.mem_cons_of_mem _ List.mem_cons_self)), (List.forall_mem_cons.mpr ⟨(List.mem_cons_of_mem _ (List.mem_cons_of_mem _ (List.mem_cons_of_mem _ List.mem_cons_self))), (List.forall_mem_cons.mpr ⟨(List.mem_cons_of_mem _ (List.mem_cons_of_mem _ (List.mem_cons_of_mem _ (List.mem_cons_of_mem _ List.mem_cons_self)))), (fun _ h => absurd h List.not_mem_nil)⟩)⟩)⟩)⟩)⟩), show ([4, 3, 2, 0, 1] : List Nat).Nodup by decide⟩ (C_mvo_loop hS2 hm2 lA _ 0 _ _ (by omega) rLs.refl)) (fun o h2 u2 q => ?_)
                  obtain ⟨q1, q2⟩ := q
                  refine ⟨_, _, q1, t0, Or.inl ⟨ra, A, hA1, Or.inl ⟨?_, rfl, k3423, k3437, m, ?_, ?_, hm2, q2⟩⟩⟩
                  · have y := c3387
                    rw [i9] at y
                    by_cases z : iv h A 9 = 0
                    · exact z
                    · rw [if_neg z] at y
                      exact absurd rfl y
                  · first
                      | (rw [if_pos (Int32.not_lt.mp c3402)]
                         exact g3423)
                      | (rw [if_neg (Int32.not_le.mpr c3402)]
                         exact g3423)
                  · first
                      | (have le := Int32.not_lt.mp c3427
                         rw [if_pos le, ← iv_eq (dd le), iv_of g3433]
                         exact g3437)
                      | (rw [if_neg (Int32.not_le.mpr c3427)]
                         exact g3437)
            · obtain ⟨-, -, w, z, -⟩ := q3396
              cases z
          · obtain ⟨-, z⟩ := q3391
            cases z
        · cases e3387
          have c3387 := ndc q3387
          refine zSaload (m := 1) (k := 0) vr_170_27 rfl rfl rfl ?_
          refine zSp0 (pc' := 29) (st' := .int (2) :: _) vr_170_28 rfl rfl ?_
          refine zScall vr_170_29 rfl rfl rfl (fun m3442 _ => C_no _ _ _ _ _) (fun v3442 h3442 u3442 q3442 => ?_) (fun E3442 h3442 u3442 q3442 => ?_)
          · obtain ⟨gn3442, z3442⟩ := q3442
            cases z3442
            show zL zrx zi _ 170 32 [(0, _), (1, _)] [_] _ _ _
            refine zLiret vr_170_32 rfl (fun x3443 e3443 => ?_)
            cases e3443
            refine ⟨_, _, rfl, t0, Or.inl ⟨ra, A, hA1, Or.inr ⟨fun z => ?_, gn3442⟩⟩⟩
            have y := Decidable.not_not.mp c3387
            rw [i9, if_pos z] at y
            exact absurd y (by decide)
          · obtain ⟨-, z⟩ := q3442
            cases z
      · obtain ⟨-, z⟩ := q3386
        cases z
    · cases e3383
      have c3383 := ndc q3383
      refine zSaload (m := 1) (k := 0) vr_170_13 rfl rfl rfl ?_
      refine zSp0 (pc' := 15) (st' := .int (1) :: _) vr_170_14 rfl rfl ?_
      refine zScall vr_170_15 rfl rfl rfl (fun m3446 _ => C_no _ _ _ _ _) (fun v3446 h3446 u3446 q3446 => ?_) (fun E3446 h3446 u3446 q3446 => ?_)
      · obtain ⟨gn3446, z3446⟩ := q3446
        cases z3446
        show zL zrx zi _ 170 18 [(0, _), (1, _)] [_] _ _ _
        refine zLiret vr_170_18 rfl (fun x3447 e3447 => ?_)
        cases e3447
        exact ⟨_, _, rfl, t0, Or.inr ⟨fun z => isr_n h0c (Decidable.not_not.mp c3383) z, gn3446⟩⟩
      · obtain ⟨-, z⟩ := q3446
        cases z
  · obtain ⟨-, z⟩ := q3382
    cases z
abbrev Q_mrepeal (el : Nat) (cnt : Int32) (x : Int32) (h : List zC) : zK := fun o h2 _ => ∃ (y : Int32) (h0 : List zC), o = .inl (some (.int y)) ∧ hPut h h0 213 0 (.int 0) ∧
  ((iN cnt.toInt x ∧ ∃ A : Nat, gF h el x.toNatClampNeg = some (.ref A) ∧ (iv h A 9 = 1 ∧ y = hcF (fun i => bMs (fun f => iv h0 (227 + i) f) (fun f => byM 1 (iv h0 236 f) x (lkM h0 f A)) 4) 3 ∧ (2 ≤ y ∧ (∃ h1 : List zC, hPut h0 h1 A 9 (.int 2) ∧ hPut h1 h2 A 11 (.int (iv h 213 1 + 30))) ∨ ¬ 2 ≤ y ∧ h2 = h0) ∨ ¬ iv h A 9 = 1 ∧ hPut h0 h2 213 0 (.int 2))) ∨ (¬ iN cnt.toInt x ∧ hPut h0 h2 213 0 (.int 1)))
theorem C_mrepeal (n : Nat) (x : Int32) (h : List zC) (u : Nat) {el : Nat} {cnt : Int32} (hS : Stc h) (hL : gF h 225 1 = some (.ref el)) (hs : gF h 225 2 = some (.int cnt)) (h0c : 0 ≤ cnt.toInt) (h213 : ¬ el = 213) (hA : ∀ k, k < cnt.toNatClampNeg → ∃ A : Nat, gF h el k = some (.ref A) ∧ 239 ≤ A) : zL zrx zi n 171 0 [(0, .ref 213), (1, .int x)] [] h u (Q_mrepeal el cnt x h) := by
  refine zSaload (m := 1) (k := 0) vr_171_0 rfl rfl rfl ?_
  refine zSp0 (pc' := 2) (st' := .int (0) :: _) vr_171_1 rfl rfl ?_
  refine zLput vr_171_2 rfl (fun p3450 k3450 e3450 t3450 g3450 => ?_)
  cases e3450
  have t0 := g3450
  have hS0 := hS.thr t0
  have f0 : ∀ q k, ¬ (q = 213 ∧ k = 0) → gF k3450 q k = gF h q k := fun q k z => by rw [t0.2.1, if_neg z]
  have hs0 := (f0 225 2 (by omega)).trans hs
  have hL0 := (f0 225 1 (by omega)).trans hL
  refine zSaload (m := 1) (k := 0) vr_171_5 rfl rfl rfl ?_
  refine zSiload (m := 1) (k := 1) vr_171_6 rfl rfl rfl (fun x3452 e3452 => ?_)
  cases e3452
  refine zScall vr_171_7 rfl rfl rfl (fun m3453 _ => C_isA _ _ _ _ hS0 hs0) (fun v3453 h3453 u3453 q3453 => ?_) (fun E3453 h3453 u3453 q3453 => ?_)
  · obtain ⟨eh3453, z3453⟩ := q3453
    replace eh3453 := eh3453.symm
    subst eh3453
    cases z3453
    show zL zrx zi _ 171 10 [(0, _), (1, _)] [_] _ _ _
    refine zSb1 (f := fun x => decide (¬ x = 0)) (off := 9) (t := 19) vr_171_10 rfl rfl rfl (fun x3454 e3454 q3454 => ?_) (fun x3454 e3454 q3454 => ?_)
    · cases e3454
      have c3454 := of_decide_eq_true q3454
      have ra := isr_y h0c c3454
      obtain ⟨A, hA1, lA⟩ := hA x.toNatClampNeg (by
        obtain ⟨a1, a2⟩ := ra
        show x.toInt.toNat < cnt.toInt.toNat
        omega)
      have hq0 : gF k3450 el x.toNatClampNeg = some (.ref A) := (f0 el _ (fun z => h213 z.1)).trans hA1
      have i9 : iv k3450 A 9 = iv h A 9 := iv_eq (f0 A 9 (by omega))
      refine zSaload (m := 1) (k := 0) vr_171_19 rfl rfl rfl ?_
      refine zLget vr_171_20 rfl (fun p3456 w3456 e3456 t3456 g3456 => ?_)
      cases e3456
      first | (rw [(st_213_9 hS0)] at g3456; cases g3456) | skip
      refine zSiload (m := 1) (k := 1) vr_171_23 rfl rfl rfl (fun x3457 e3457 => ?_)
      cases e3457
      refine zScall vr_171_24 rfl rfl rfl (fun m3458 _ => C_get _ _ _ _ _ hL0 hs0) (fun v3458 h3458 u3458 q3458 => ?_) (fun E3458 h3458 u3458 q3458 => ?_)
      · obtain ⟨eh3458, y3458, w3458, z3458, k3458⟩ := q3458
        replace eh3458 := eh3458.symm
        subst eh3458
        cases z3458
        show zL zrx zi _ 171 29 [(0, _), (1, _)] [_] _ _ _
        refine zLcst vr_171_29 rfl (fun p3459 e3459 => ?_)
        cases e3459
        have e1 := k3458
        rw [hq0] at e1
        cases e1
        refine zSastore (m := 1) (k := 2) vr_171_32 rfl rfl ?_
        show zL zrx zi _ 171 33 [(2, _), (0, _), (1, _)] [] _ _ _
        refine zSaload (m := 1) (k := 2) vr_171_33 rfl rfl rfl ?_
        refine zLget vr_171_34 rfl (fun p3462 w3462 e3462 t3462 g3462 => ?_)
        cases e3462
        first | (rw [(st_213_9 hS0)] at g3462; cases g3462) | skip
        refine zSp0 (pc' := 38) (st' := .int (1) :: _) vr_171_37 rfl rfl ?_
        refine zSb2 (f := fun x y => decide (x = y)) (off := 9) (t := 47) vr_171_38 rfl rfl rfl (fun x3464 y3464 e3464 f3464 q3464 => ?_) (fun x3464 y3464 e3464 f3464 q3464 => ?_)
        · cases e3464
          cases f3464
          have c3464 := of_decide_eq_true q3464
          refine zSaload (m := 1) (k := 0) vr_171_47 rfl rfl rfl ?_
          refine zSiload (m := 1) (k := 1) vr_171_48 rfl rfl rfl (fun x3466 e3466 => ?_)
          cases e3466
          refine zSp0 (pc' := 50) (st' := .int (1) :: _) vr_171_49 rfl rfl ?_
          refine zScall vr_171_50 rfl rfl rfl (fun m3468 _ => C_hfo _ _ _ _ _ hS0 hL0 hs0 hq0) (fun v3468 h3468 u3468 q3468 => ?_) (fun E3468 h3468 u3468 q3468 => ?_)
          · obtain ⟨eh3468, z3468⟩ := q3468
            replace eh3468 := eh3468.symm
            subst eh3468
            cases z3468
            show zL zrx zi _ 171 53 [(2, _), (0, _), (1, _)] [_] _ _ _
            refine zSistore (m := 1) (k := 3) vr_171_53 rfl rfl (fun x3469 e3469 => ?_)
            cases e3469
            show zL zrx zi _ 171 54 [(3, _), (2, _), (0, _), (1, _)] [] _ _ _
            refine zSiload (m := 1) (k := 3) vr_171_54 rfl rfl rfl (fun x3470 e3470 => ?_)
            cases e3470
            refine zSp0 (pc' := 56) (st' := .int (2) :: _) vr_171_55 rfl rfl ?_
            refine zSb2 (f := fun x y => decide (x < y)) (off := 19) (t := 75) vr_171_56 rfl rfl rfl (fun x3472 y3472 e3472 f3472 q3472 => ?_) (fun x3472 y3472 e3472 f3472 q3472 => ?_)
            · cases e3472
              cases f3472
              have c3472 := of_decide_eq_true q3472
              refine zSiload (m := 1) (k := 3) vr_171_75 rfl rfl rfl (fun x3473 e3473 => ?_)
              cases e3473
              refine zLiret vr_171_76 rfl (fun x3474 e3474 => ?_)
              cases e3474
              have e9 : iv h A 9 = 1 := i9.symm.trans ((iv_of g3462).trans c3464)
              first
                | (have le := Int32.not_lt.mp c3472
                   refine ⟨_, _, rfl, t0, Or.inl ⟨ra, A, hA1, Or.inl ⟨e9, rfl, Or.inl ⟨le, _, g3422, ?_⟩⟩⟩⟩
                   have dd : gF k3422 213 1 = gF h 213 1 := by
                     rw [g3422.2.1, if_neg (by omega), f0 213 1 (by omega)]
                   rw [← iv_eq dd, iv_of g2970]
                   exact g3329)
                | exact ⟨_, _, rfl, t0, Or.inl ⟨ra, A, hA1, Or.inl ⟨e9, rfl, Or.inr ⟨Int32.not_le.mpr c3472, rfl⟩⟩⟩⟩
            · cases e3472
              cases f3472
              have c3472 := ndc q3472
              refine zSaload (m := 1) (k := 2) vr_171_59 rfl rfl rfl ?_
              refine zSp0 (pc' := 61) (st' := .int (2) :: _) vr_171_60 rfl rfl ?_
              refine zLput vr_171_61 rfl (fun p3477 k3477 e3477 t3477 g3477 => ?_)
              cases e3477
              refine zSaload (m := 1) (k := 2) vr_171_64 rfl rfl rfl ?_
              refine zSaload (m := 1) (k := 0) vr_171_65 rfl rfl rfl ?_
              refine zLget vr_171_66 rfl (fun p3480 w3480 e3480 t3480 g3480 => ?_)
              cases e3480
              first | (rw [(st_213_9 hS0)] at g3480; cases g3480) | skip
              refine zSp0 (pc' := 71) (st' := .int (30) :: _) vr_171_69 rfl rfl ?_
              refine zS2 (f := fun x y => .int (x + y)) vr_171_71 rfl rfl (fun x3482 y3482 e3482 f3482 => ?_)
              cases e3482
              cases f3482
              refine zLput vr_171_72 rfl (fun p3483 k3483 e3483 t3483 g3483 => ?_)
              cases e3483
              refine zSiload (m := 1) (k := 3) vr_171_75 rfl rfl rfl (fun x3484 e3484 => ?_)
              cases e3484
              refine zLiret vr_171_76 rfl (fun x3485 e3485 => ?_)
              cases e3485
              have e9 : iv h A 9 = 1 := i9.symm.trans ((iv_of g3462).trans c3464)
              first
                | (have le := Int32.not_lt.mp c3472
                   refine ⟨_, _, rfl, t0, Or.inl ⟨ra, A, hA1, Or.inl ⟨e9, rfl, Or.inl ⟨le, _, g3477, ?_⟩⟩⟩⟩
                   have dd : gF k3477 213 1 = gF h 213 1 := by
                     rw [g3477.2.1, if_neg (by omega), f0 213 1 (by omega)]
                   rw [← iv_eq dd, iv_of g3480]
                   exact g3483)
                | exact ⟨_, _, rfl, t0, Or.inl ⟨ra, A, hA1, Or.inl ⟨e9, rfl, Or.inr ⟨Int32.not_le.mpr c3472, rfl⟩⟩⟩⟩
          · obtain ⟨-, z⟩ := q3468
            cases z
        · cases e3464
          cases f3464
          have c3464 := ndc q3464
          refine zSaload (m := 1) (k := 0) vr_171_41 rfl rfl rfl ?_
          refine zSp0 (pc' := 43) (st' := .int (2) :: _) vr_171_42 rfl rfl ?_
          refine zScall vr_171_43 rfl rfl rfl (fun m3488 _ => C_no _ _ _ _ _) (fun v3488 h3488 u3488 q3488 => ?_) (fun E3488 h3488 u3488 q3488 => ?_)
          · obtain ⟨gn3488, z3488⟩ := q3488
            cases z3488
            show zL zrx zi _ 171 46 [(2, _), (0, _), (1, _)] [_] _ _ _
            refine zLiret vr_171_46 rfl (fun x3489 e3489 => ?_)
            cases e3489
            exact ⟨_, _, rfl, t0, Or.inl ⟨ra, A, hA1, Or.inr ⟨fun z => c3464 ((iv_of g3462).symm.trans (i9.trans z)), gn3488⟩⟩⟩
          · obtain ⟨-, z⟩ := q3488
            cases z
      · obtain ⟨-, -, w, z, -⟩ := q3458
        cases z
    · cases e3454
      have c3454 := ndc q3454
      refine zSaload (m := 1) (k := 0) vr_171_13 rfl rfl rfl ?_
      refine zSp0 (pc' := 15) (st' := .int (1) :: _) vr_171_14 rfl rfl ?_
      refine zScall vr_171_15 rfl rfl rfl (fun m3492 _ => C_no _ _ _ _ _) (fun v3492 h3492 u3492 q3492 => ?_) (fun E3492 h3492 u3492 q3492 => ?_)
      · obtain ⟨gn3492, z3492⟩ := q3492
        cases z3492
        show zL zrx zi _ 171 18 [(0, _), (1, _)] [_] _ _ _
        refine zLiret vr_171_18 rfl (fun x3493 e3493 => ?_)
        cases e3493
        exact ⟨_, _, rfl, t0, Or.inr ⟨fun z => isr_n h0c (Decidable.not_not.mp c3454) z, gn3492⟩⟩
      · obtain ⟨-, z⟩ := q3492
        cases z
  · obtain ⟨-, z⟩ := q3453
    cases z

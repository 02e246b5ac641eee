/-! ===== values: all, 7 ===== -/
theorem vr_50_0 : zrx 50 0 = some (.iconst 0, 0, 0) := by decide +kernel
theorem vr_50_1 : zrx 50 1 = some (.istore_n 2, 0, 0) := by decide +kernel
theorem vr_50_2 : zrx 50 2 = some (.iconst 0, 0, 0) := by decide +kernel
theorem vr_50_3 : zrx 50 3 = some (.istore_n 3, 0, 0) := by decide +kernel
theorem vr_50_4 : zrx 50 4 = some (.iload_n 3, 0, 0) := by decide +kernel
theorem vr_50_5 : zrx 50 5 = some (.iconst 4, 0, 0) := by decide +kernel
theorem vr_50_6 : zrx 50 6 = some (.if_icmp .ge 25, 0, 0) := by decide +kernel
theorem vr_50_9 : zrx 50 9 = some (.aload_n 0, 0, 0) := by decide +kernel
theorem vr_50_10 : zrx 50 10 = some (.getfield 11, 11, 0) := by decide +kernel
theorem vr_50_13 : zrx 50 13 = some (.iload_n 3, 0, 0) := by decide +kernel
theorem vr_50_14 : zrx 50 14 = some (.aaload, 0, 0) := by decide +kernel
theorem vr_50_15 : zrx 50 15 = some (.getfield 22, 9, 3) := by decide +kernel
theorem vr_50_18 : zrx 50 18 = some (.iload_n 1, 0, 0) := by decide +kernel
theorem vr_50_19 : zrx 50 19 = some (.if_icmp .ne 6, 0, 0) := by decide +kernel
theorem vr_50_22 : zrx 50 22 = some (.iinc 2 1, 0, 0) := by decide +kernel
theorem vr_50_25 : zrx 50 25 = some (.iinc 3 1, 0, 0) := by decide +kernel
theorem vr_50_28 : zrx 50 28 = some (.goto (-24), 0, 0) := by decide +kernel
theorem vr_50_31 : zrx 50 31 = some (.iload_n 2, 0, 0) := by decide +kernel
theorem vr_50_32 : zrx 50 32 = some (.ireturn, 0, 0) := by decide +kernel
theorem vr_53_0 : zrx 53 0 = some (.aload_n 1, 0, 0) := by decide +kernel
theorem vr_53_1 : zrx 53 1 = some (.getfield 34, 3, 1) := by decide +kernel
theorem vr_53_4 : zrx 53 4 = some (.getfield 40, 4, 0) := by decide +kernel
theorem vr_53_7 : zrx 53 7 = some (.istore_n 2, 0, 0) := by decide +kernel
theorem vr_53_8 : zrx 53 8 = some (.iconst 0, 0, 0) := by decide +kernel
theorem vr_53_9 : zrx 53 9 = some (.istore_n 3, 0, 0) := by decide +kernel
theorem vr_53_10 : zrx 53 10 = some (.iload_n 3, 0, 0) := by decide +kernel
theorem vr_53_11 : zrx 53 11 = some (.iconst 4, 0, 0) := by decide +kernel
theorem vr_53_12 : zrx 53 12 = some (.if_icmp .ge 56, 0, 0) := by decide +kernel
theorem vr_53_15 : zrx 53 15 = some (.aload_n 0, 0, 0) := by decide +kernel
theorem vr_53_16 : zrx 53 16 = some (.getfield 11, 11, 0) := by decide +kernel
theorem vr_53_19 : zrx 53 19 = some (.iload_n 3, 0, 0) := by decide +kernel
theorem vr_53_20 : zrx 53 20 = some (.aaload, 0, 0) := by decide +kernel
theorem vr_53_21 : zrx 53 21 = some (.astore 4, 0, 0) := by decide +kernel
theorem vr_53_23 : zrx 53 23 = some (.aload 4, 0, 0) := by decide +kernel
theorem vr_53_25 : zrx 53 25 = some (.getfield 22, 9, 3) := by decide +kernel
theorem vr_53_28 : zrx 53 28 = some (.aload_n 1, 0, 0) := by decide +kernel
theorem vr_53_29 : zrx 53 29 = some (.getfield 45, 3, 0) := by decide +kernel
theorem vr_53_32 : zrx 53 32 = some (.if_icmp .ne 30, 0, 0) := by decide +kernel
theorem vr_53_35 : zrx 53 35 = some (.aload 4, 0, 0) := by decide +kernel
theorem vr_53_37 : zrx 53 37 = some (.iconst (-1), 0, 0) := by decide +kernel
theorem vr_53_38 : zrx 53 38 = some (.putfield 22, 9, 3) := by decide +kernel
theorem vr_53_41 : zrx 53 41 = some (.aload 4, 0, 0) := by decide +kernel
theorem vr_53_43 : zrx 53 43 = some (.getfield 48, 9, 0) := by decide +kernel
theorem vr_53_46 : zrx 53 46 = some (.iload_n 2, 0, 0) := by decide +kernel
theorem vr_53_47 : zrx 53 47 = some (.aload 4, 0, 0) := by decide +kernel
theorem vr_53_49 : zrx 53 49 = some (.getfield 48, 9, 0) := by decide +kernel
theorem vr_53_52 : zrx 53 52 = some (.iload_n 2, 0, 0) := by decide +kernel
theorem vr_53_53 : zrx 53 53 = some (.iaload, 0, 0) := by decide +kernel
theorem vr_53_54 : zrx 53 54 = some (.iconst 1, 0, 0) := by decide +kernel
theorem vr_53_55 : zrx 53 55 = some (.isub, 0, 0) := by decide +kernel
theorem vr_53_56 : zrx 53 56 = some (.bipush (-5), 0, 0) := by decide +kernel
theorem vr_53_58 : zrx 53 58 = some (.invokestatic 51, 261, 0) := by decide +kernel
theorem vr_53_61 : zrx 53 61 = some (.iastore, 0, 0) := by decide +kernel
theorem vr_53_62 : zrx 53 62 = some (.iinc 3 1, 0, 0) := by decide +kernel
theorem vr_53_65 : zrx 53 65 = some (.goto (-55), 0, 0) := by decide +kernel
theorem vr_53_68 : zrx 53 68 = some (.return_, 0, 0) := by decide +kernel
theorem vr_69_0 : zrx 69 0 = some (.iload_n 1, 0, 0) := by decide +kernel
theorem vr_69_1 : zrx 69 1 = some (.iconst 4, 0, 0) := by decide +kernel
theorem vr_69_2 : zrx 69 2 = some (.invokestatic 68, 96, 0) := by decide +kernel
theorem vr_69_5 : zrx 69 5 = some (.iload_n 2, 0, 0) := by decide +kernel
theorem vr_69_6 : zrx 69 6 = some (.aload_n 0, 0, 0) := by decide +kernel
theorem vr_69_7 : zrx 69 7 = some (.getfield 42, 13, 10) := by decide +kernel
theorem vr_69_10 : zrx 69 10 = some (.getfield 165, 5, 2) := by decide +kernel
theorem vr_69_13 : zrx 69 13 = some (.invokestatic 68, 96, 0) := by decide +kernel
theorem vr_69_16 : zrx 69 16 = some (.aload_n 0, 0, 0) := by decide +kernel
theorem vr_69_17 : zrx 69 17 = some (.getfield 42, 13, 10) := by decide +kernel
theorem vr_69_20 : zrx 69 20 = some (.getfield 170, 5, 0) := by decide +kernel
theorem vr_69_23 : zrx 69 23 = some (.iload_n 2, 0, 0) := by decide +kernel
theorem vr_69_24 : zrx 69 24 = some (.aaload, 0, 0) := by decide +kernel
theorem vr_69_25 : zrx 69 25 = some (.getfield 174, 3, 2) := by decide +kernel
theorem vr_69_28 : zrx 69 28 = some (.ifCond .ne 7, 0, 0) := by decide +kernel
theorem vr_69_31 : zrx 69 31 = some (.iconst 1, 0, 0) := by decide +kernel
theorem vr_69_32 : zrx 69 32 = some (.goto 4, 0, 0) := by decide +kernel
theorem vr_69_35 : zrx 69 35 = some (.iconst 0, 0, 0) := by decide +kernel
theorem vr_69_36 : zrx 69 36 = some (.invokestatic 83, 98, 0) := by decide +kernel
theorem vr_69_39 : zrx 69 39 = some (.aload_n 0, 0, 0) := by decide +kernel
theorem vr_69_40 : zrx 69 40 = some (.getfield 49, 13, 11) := by decide +kernel
theorem vr_69_43 : zrx 69 43 = some (.getfield 179, 11, 0) := by decide +kernel
theorem vr_69_46 : zrx 69 46 = some (.iload_n 1, 0, 0) := by decide +kernel
theorem vr_69_47 : zrx 69 47 = some (.aaload, 0, 0) := by decide +kernel
theorem vr_69_48 : zrx 69 48 = some (.getfield 197, 9, 3) := by decide +kernel
theorem vr_69_51 : zrx 69 51 = some (.iconst (-1), 0, 0) := by decide +kernel
theorem vr_69_52 : zrx 69 52 = some (.if_icmp .ne 7, 0, 0) := by decide +kernel
theorem vr_69_55 : zrx 69 55 = some (.iconst 1, 0, 0) := by decide +kernel
theorem vr_69_56 : zrx 69 56 = some (.goto 4, 0, 0) := by decide +kernel
theorem vr_69_59 : zrx 69 59 = some (.iconst 0, 0, 0) := by decide +kernel
theorem vr_69_60 : zrx 69 60 = some (.invokestatic 83, 98, 0) := by decide +kernel
theorem vr_69_63 : zrx 69 63 = some (.aload_n 0, 0, 0) := by decide +kernel
theorem vr_69_64 : zrx 69 64 = some (.getfield 49, 13, 11) := by decide +kernel
theorem vr_69_67 : zrx 69 67 = some (.getfield 179, 11, 0) := by decide +kernel
theorem vr_69_70 : zrx 69 70 = some (.iload_n 1, 0, 0) := by decide +kernel
theorem vr_69_71 : zrx 69 71 = some (.aaload, 0, 0) := by decide +kernel
theorem vr_69_72 : zrx 69 72 = some (.iload_n 2, 0, 0) := by decide +kernel
theorem vr_69_73 : zrx 69 73 = some (.putfield 197, 9, 3) := by decide +kernel
theorem vr_69_76 : zrx 69 76 = some (.aload_n 0, 0, 0) := by decide +kernel
theorem vr_69_77 : zrx 69 77 = some (.getfield 49, 13, 11) := by decide +kernel
theorem vr_69_80 : zrx 69 80 = some (.iload_n 2, 0, 0) := by decide +kernel
theorem vr_69_81 : zrx 69 81 = some (.invokevirtual 200, 50, 120) := by decide +kernel
theorem vr_69_84 : zrx 69 84 = some (.ireturn, 0, 0) := by decide +kernel
theorem vr_70_0 : zrx 70 0 = some (.iload_n 1, 0, 0) := by decide +kernel
theorem vr_70_1 : zrx 70 1 = some (.aload_n 0, 0, 0) := by decide +kernel
theorem vr_70_2 : zrx 70 2 = some (.getfield 42, 13, 10) := by decide +kernel
theorem vr_70_5 : zrx 70 5 = some (.getfield 165, 5, 2) := by decide +kernel
theorem vr_70_8 : zrx 70 8 = some (.invokestatic 68, 96, 0) := by decide +kernel
theorem vr_70_11 : zrx 70 11 = some (.aload_n 0, 0, 0) := by decide +kernel
theorem vr_70_12 : zrx 70 12 = some (.getfield 42, 13, 10) := by decide +kernel
theorem vr_70_15 : zrx 70 15 = some (.getfield 170, 5, 0) := by decide +kernel
theorem vr_70_18 : zrx 70 18 = some (.iload_n 1, 0, 0) := by decide +kernel
theorem vr_70_19 : zrx 70 19 = some (.aaload, 0, 0) := by decide +kernel
theorem vr_70_20 : zrx 70 20 = some (.astore_n 2, 0, 0) := by decide +kernel
theorem vr_70_21 : zrx 70 21 = some (.aload_n 2, 0, 0) := by decide +kernel
theorem vr_70_22 : zrx 70 22 = some (.getfield 174, 3, 2) := by decide +kernel
theorem vr_70_25 : zrx 70 25 = some (.ifCond .ne 7, 0, 0) := by decide +kernel
theorem vr_70_28 : zrx 70 28 = some (.iconst 1, 0, 0) := by decide +kernel
theorem vr_70_29 : zrx 70 29 = some (.goto 4, 0, 0) := by decide +kernel
theorem vr_70_32 : zrx 70 32 = some (.iconst 0, 0, 0) := by decide +kernel
theorem vr_70_33 : zrx 70 33 = some (.invokestatic 83, 98, 0) := by decide +kernel
theorem vr_70_36 : zrx 70 36 = some (.aload_n 0, 0, 0) := by decide +kernel
theorem vr_70_37 : zrx 70 37 = some (.getfield 49, 13, 11) := by decide +kernel
theorem vr_70_40 : zrx 70 40 = some (.aload_n 2, 0, 0) := by decide +kernel
theorem vr_70_41 : zrx 70 41 = some (.iconst 0, 0, 0) := by decide +kernel
theorem vr_70_42 : zrx 70 42 = some (.invokevirtual 203, 52, 120) := by decide +kernel
theorem vr_70_45 : zrx 70 45 = some (.istore_n 3, 0, 0) := by decide +kernel
theorem vr_70_46 : zrx 70 46 = some (.iload_n 3, 0, 0) := by decide +kernel
theorem vr_70_47 : zrx 70 47 = some (.iconst 2, 0, 0) := by decide +kernel
theorem vr_70_48 : zrx 70 48 = some (.if_icmp .lt 22, 0, 0) := by decide +kernel
theorem vr_70_51 : zrx 70 51 = some (.aload_n 2, 0, 0) := by decide +kernel
theorem vr_70_52 : zrx 70 52 = some (.iconst 1, 0, 0) := by decide +kernel
theorem vr_70_53 : zrx 70 53 = some (.putfield 174, 3, 2) := by decide +kernel
theorem vr_70_56 : zrx 70 56 = some (.aload_n 2, 0, 0) := by decide +kernel
theorem vr_70_57 : zrx 70 57 = some (.aload_n 0, 0, 0) := by decide +kernel
theorem vr_70_58 : zrx 70 58 = some (.getfield 123, 13, 0) := by decide +kernel
theorem vr_70_61 : zrx 70 61 = some (.bipush 30, 0, 0) := by decide +kernel
theorem vr_70_63 : zrx 70 63 = some (.iadd, 0, 0) := by decide +kernel
theorem vr_70_64 : zrx 70 64 = some (.putfield 207, 3, 3) := by decide +kernel
theorem vr_70_67 : zrx 70 67 = some (.goto 8, 0, 0) := by decide +kernel
theorem vr_70_70 : zrx 70 70 = some (.aload_n 2, 0, 0) := by decide +kernel
theorem vr_70_71 : zrx 70 71 = some (.iconst 3, 0, 0) := by decide +kernel
theorem vr_70_72 : zrx 70 72 = some (.putfield 174, 3, 2) := by decide +kernel
theorem vr_70_75 : zrx 70 75 = some (.aload_n 0, 0, 0) := by decide +kernel
theorem vr_70_76 : zrx 70 76 = some (.getfield 49, 13, 11) := by decide +kernel
theorem vr_70_79 : zrx 70 79 = some (.aload_n 2, 0, 0) := by decide +kernel
theorem vr_70_80 : zrx 70 80 = some (.invokevirtual 210, 53, 120) := by decide +kernel
theorem vr_70_83 : zrx 70 83 = some (.iload_n 3, 0, 0) := by decide +kernel
theorem vr_70_84 : zrx 70 84 = some (.ireturn, 0, 0) := by decide +kernel
theorem vr_71_0 : zrx 71 0 = some (.iload_n 1, 0, 0) := by decide +kernel
theorem vr_71_1 : zrx 71 1 = some (.aload_n 0, 0, 0) := by decide +kernel
theorem vr_71_2 : zrx 71 2 = some (.getfield 42, 13, 10) := by decide +kernel
theorem vr_71_5 : zrx 71 5 = some (.getfield 165, 5, 2) := by decide +kernel
theorem vr_71_8 : zrx 71 8 = some (.invokestatic 68, 96, 0) := by decide +kernel
theorem vr_71_11 : zrx 71 11 = some (.aload_n 0, 0, 0) := by decide +kernel
theorem vr_71_12 : zrx 71 12 = some (.getfield 42, 13, 10) := by decide +kernel
theorem vr_71_15 : zrx 71 15 = some (.getfield 170, 5, 0) := by decide +kernel
theorem vr_71_18 : zrx 71 18 = some (.iload_n 1, 0, 0) := by decide +kernel
theorem vr_71_19 : zrx 71 19 = some (.aaload, 0, 0) := by decide +kernel
theorem vr_71_20 : zrx 71 20 = some (.astore_n 2, 0, 0) := by decide +kernel
theorem vr_71_21 : zrx 71 21 = some (.aload_n 2, 0, 0) := by decide +kernel
theorem vr_71_22 : zrx 71 22 = some (.getfield 174, 3, 2) := by decide +kernel
theorem vr_71_25 : zrx 71 25 = some (.iconst 1, 0, 0) := by decide +kernel
theorem vr_71_26 : zrx 71 26 = some (.if_icmp .ne 7, 0, 0) := by decide +kernel
theorem vr_71_29 : zrx 71 29 = some (.iconst 1, 0, 0) := by decide +kernel
theorem vr_71_30 : zrx 71 30 = some (.goto 4, 0, 0) := by decide +kernel
theorem vr_71_33 : zrx 71 33 = some (.iconst 0, 0, 0) := by decide +kernel
theorem vr_71_34 : zrx 71 34 = some (.invokestatic 83, 98, 0) := by decide +kernel
theorem vr_71_37 : zrx 71 37 = some (.aload_n 0, 0, 0) := by decide +kernel
theorem vr_71_38 : zrx 71 38 = some (.getfield 49, 13, 11) := by decide +kernel
theorem vr_71_41 : zrx 71 41 = some (.aload_n 2, 0, 0) := by decide +kernel
theorem vr_71_42 : zrx 71 42 = some (.iconst 1, 0, 0) := by decide +kernel
theorem vr_71_43 : zrx 71 43 = some (.invokevirtual 203, 52, 120) := by decide +kernel
theorem vr_71_46 : zrx 71 46 = some (.istore_n 3, 0, 0) := by decide +kernel
theorem vr_71_47 : zrx 71 47 = some (.iload_n 3, 0, 0) := by decide +kernel
theorem vr_71_48 : zrx 71 48 = some (.iconst 2, 0, 0) := by decide +kernel
theorem vr_71_49 : zrx 71 49 = some (.if_icmp .lt 19, 0, 0) := by decide +kernel
theorem vr_71_52 : zrx 71 52 = some (.aload_n 2, 0, 0) := by decide +kernel
theorem vr_71_53 : zrx 71 53 = some (.iconst 2, 0, 0) := by decide +kernel
theorem vr_71_54 : zrx 71 54 = some (.putfield 174, 3, 2) := by decide +kernel
theorem vr_71_57 : zrx 71 57 = some (.aload_n 2, 0, 0) := by decide +kernel
theorem vr_71_58 : zrx 71 58 = some (.aload_n 0, 0, 0) := by decide +kernel
theorem vr_71_59 : zrx 71 59 = some (.getfield 123, 13, 0) := by decide +kernel
theorem vr_71_62 : zrx 71 62 = some (.bipush 30, 0, 0) := by decide +kernel
theorem vr_71_64 : zrx 71 64 = some (.iadd, 0, 0) := by decide +kernel
theorem vr_71_65 : zrx 71 65 = some (.putfield 214, 3, 4) := by decide +kernel
theorem vr_71_68 : zrx 71 68 = some (.iload_n 3, 0, 0) := by decide +kernel
theorem vr_71_69 : zrx 71 69 = some (.ireturn, 0, 0) := by decide +kernel
theorem vr_166_0 : zrx 166 0 = some (.aload_n 0, 0, 0) := by decide +kernel
theorem vr_166_1 : zrx 166 1 = some (.iconst 0, 0, 0) := by decide +kernel
theorem vr_166_2 : zrx 166 2 = some (.putfield 55, 18, 0) := by decide +kernel
theorem vr_166_5 : zrx 166 5 = some (.iload_n 1, 0, 0) := by decide +kernel
theorem vr_166_6 : zrx 166 6 = some (.iconst 0, 0, 0) := by decide +kernel
theorem vr_166_7 : zrx 166 7 = some (.iconst 3, 0, 0) := by decide +kernel
theorem vr_166_8 : zrx 166 8 = some (.invokestatic 209, 132, 0) := by decide +kernel
theorem vr_166_11 : zrx 166 11 = some (.ifCond .eq 11, 0, 0) := by decide +kernel
theorem vr_166_14 : zrx 166 14 = some (.aload_n 0, 0, 0) := by decide +kernel
theorem vr_166_15 : zrx 166 15 = some (.iload_n 2, 0, 0) := by decide +kernel
theorem vr_166_16 : zrx 166 16 = some (.invokevirtual 256, 158, 190) := by decide +kernel
theorem vr_166_19 : zrx 166 19 = some (.ifCond .ne 9, 0, 0) := by decide +kernel
theorem vr_166_22 : zrx 166 22 = some (.aload_n 0, 0, 0) := by decide +kernel
theorem vr_166_23 : zrx 166 23 = some (.iconst 1, 0, 0) := by decide +kernel
theorem vr_166_24 : zrx 166 24 = some (.invokevirtual 212, 131, 190) := by decide +kernel
theorem vr_166_27 : zrx 166 27 = some (.ireturn, 0, 0) := by decide +kernel
theorem vr_166_28 : zrx 166 28 = some (.aload_n 0, 0, 0) := by decide +kernel
theorem vr_166_29 : zrx 166 29 = some (.iload_n 2, 0, 0) := by decide +kernel
theorem vr_166_30 : zrx 166 30 = some (.invokevirtual 259, 159, 190) := by decide +kernel
theorem vr_166_33 : zrx 166 33 = some (.ifCond .eq 13, 0, 0) := by decide +kernel
theorem vr_166_36 : zrx 166 36 = some (.aload_n 0, 0, 0) := by decide +kernel
theorem vr_166_37 : zrx 166 37 = some (.getfield 49, 18, 14) := by decide +kernel
theorem vr_166_40 : zrx 166 40 = some (.iload_n 1, 0, 0) := by decide +kernel
theorem vr_166_41 : zrx 166 41 = some (.iaload, 0, 0) := by decide +kernel
theorem vr_166_42 : zrx 166 42 = some (.iconst (-1), 0, 0) := by decide +kernel
theorem vr_166_43 : zrx 166 43 = some (.if_icmp .eq 9, 0, 0) := by decide +kernel
theorem vr_166_46 : zrx 166 46 = some (.aload_n 0, 0, 0) := by decide +kernel
theorem vr_166_47 : zrx 166 47 = some (.iconst 2, 0, 0) := by decide +kernel
theorem vr_166_48 : zrx 166 48 = some (.invokevirtual 212, 131, 190) := by decide +kernel
theorem vr_166_51 : zrx 166 51 = some (.ireturn, 0, 0) := by decide +kernel
theorem vr_166_52 : zrx 166 52 = some (.aload_n 0, 0, 0) := by decide +kernel
theorem vr_166_53 : zrx 166 53 = some (.getfield 49, 18, 14) := by decide +kernel
theorem vr_166_56 : zrx 166 56 = some (.iload_n 1, 0, 0) := by decide +kernel
theorem vr_166_57 : zrx 166 57 = some (.iload_n 2, 0, 0) := by decide +kernel
theorem vr_166_58 : zrx 166 58 = some (.iastore, 0, 0) := by decide +kernel
theorem vr_166_59 : zrx 166 59 = some (.iconst 0, 0, 0) := by decide +kernel
theorem vr_166_60 : zrx 166 60 = some (.istore_n 3, 0, 0) := by decide +kernel
theorem vr_166_61 : zrx 166 61 = some (.aload_n 0, 0, 0) := by decide +kernel
theorem vr_166_62 : zrx 166 62 = some (.getfield 49, 18, 14) := by decide +kernel
theorem vr_166_65 : zrx 166 65 = some (.astore 4, 0, 0) := by decide +kernel
theorem vr_166_67 : zrx 166 67 = some (.aload 4, 0, 0) := by decide +kernel
theorem vr_166_69 : zrx 166 69 = some (.arraylength, 0, 0) := by decide +kernel
theorem vr_166_70 : zrx 166 70 = some (.istore 5, 0, 0) := by decide +kernel
theorem vr_166_72 : zrx 166 72 = some (.iconst 0, 0, 0) := by decide +kernel
theorem vr_166_73 : zrx 166 73 = some (.istore 6, 0, 0) := by decide +kernel
theorem vr_166_75 : zrx 166 75 = some (.iload 6, 0, 0) := by decide +kernel
theorem vr_166_77 : zrx 166 77 = some (.iload 5, 0, 0) := by decide +kernel
theorem vr_166_79 : zrx 166 79 = some (.if_icmp .ge 30, 0, 0) := by decide +kernel
theorem vr_166_82 : zrx 166 82 = some (.aload 4, 0, 0) := by decide +kernel
theorem vr_166_84 : zrx 166 84 = some (.iload 6, 0, 0) := by decide +kernel
theorem vr_166_86 : zrx 166 86 = some (.iaload, 0, 0) := by decide +kernel
theorem vr_166_87 : zrx 166 87 = some (.istore 7, 0, 0) := by decide +kernel
theorem vr_166_89 : zrx 166 89 = some (.iload_n 3, 0, 0) := by decide +kernel
theorem vr_166_90 : zrx 166 90 = some (.iload 7, 0, 0) := by decide +kernel
theorem vr_166_92 : zrx 166 92 = some (.iload_n 2, 0, 0) := by decide +kernel
theorem vr_166_93 : zrx 166 93 = some (.if_icmp .ne 7, 0, 0) := by decide +kernel
theorem vr_166_96 : zrx 166 96 = some (.iconst 1, 0, 0) := by decide +kernel
theorem vr_166_97 : zrx 166 97 = some (.goto 4, 0, 0) := by decide +kernel
theorem vr_166_100 : zrx 166 100 = some (.iconst 0, 0, 0) := by decide +kernel
theorem vr_166_101 : zrx 166 101 = some (.iadd, 0, 0) := by decide +kernel
theorem vr_166_102 : zrx 166 102 = some (.istore_n 3, 0, 0) := by decide +kernel
theorem vr_166_103 : zrx 166 103 = some (.iinc 6 1, 0, 0) := by decide +kernel
theorem vr_166_106 : zrx 166 106 = some (.goto (-31), 0, 0) := by decide +kernel
theorem vr_166_109 : zrx 166 109 = some (.iload_n 3, 0, 0) := by decide +kernel
theorem vr_166_110 : zrx 166 110 = some (.ireturn, 0, 0) := by decide +kernel
theorem vr_170_0 : zrx 170 0 = some (.aload_n 0, 0, 0) := by decide +kernel
theorem vr_170_1 : zrx 170 1 = some (.iconst 0, 0, 0) := by decide +kernel
theorem vr_170_2 : zrx 170 2 = some (.putfield 55, 18, 0) := by decide +kernel
theorem vr_170_5 : zrx 170 5 = some (.aload_n 0, 0, 0) := by decide +kernel
theorem vr_170_6 : zrx 170 6 = some (.iload_n 1, 0, 0) := by decide +kernel
theorem vr_170_7 : zrx 170 7 = some (.invokevirtual 256, 158, 190) := by decide +kernel
theorem vr_170_10 : zrx 170 10 = some (.ifCond .ne 9, 0, 0) := by decide +kernel
theorem vr_170_13 : zrx 170 13 = some (.aload_n 0, 0, 0) := by decide +kernel
theorem vr_170_14 : zrx 170 14 = some (.iconst 1, 0, 0) := by decide +kernel
theorem vr_170_15 : zrx 170 15 = some (.invokevirtual 212, 131, 190) := by decide +kernel
theorem vr_170_18 : zrx 170 18 = some (.ireturn, 0, 0) := by decide +kernel
theorem vr_170_19 : zrx 170 19 = some (.aload_n 0, 0, 0) := by decide +kernel
theorem vr_170_20 : zrx 170 20 = some (.iload_n 1, 0, 0) := by decide +kernel
theorem vr_170_21 : zrx 170 21 = some (.invokevirtual 259, 159, 190) := by decide +kernel
theorem vr_170_24 : zrx 170 24 = some (.ifCond .ne 9, 0, 0) := by decide +kernel
theorem vr_170_27 : zrx 170 27 = some (.aload_n 0, 0, 0) := by decide +kernel
theorem vr_170_28 : zrx 170 28 = some (.iconst 2, 0, 0) := by decide +kernel
theorem vr_170_29 : zrx 170 29 = some (.invokevirtual 212, 131, 190) := by decide +kernel
theorem vr_170_32 : zrx 170 32 = some (.ireturn, 0, 0) := by decide +kernel
theorem vr_170_33 : zrx 170 33 = some (.aload_n 0, 0, 0) := by decide +kernel
theorem vr_170_34 : zrx 170 34 = some (.iload_n 1, 0, 0) := by decide +kernel
theorem vr_170_35 : zrx 170 35 = some (.iconst 0, 0, 0) := by decide +kernel
theorem vr_170_36 : zrx 170 36 = some (.invokevirtual 273, 169, 190) := by decide +kernel
theorem vr_170_39 : zrx 170 39 = some (.istore_n 2, 0, 0) := by decide +kernel
theorem vr_170_40 : zrx 170 40 = some (.aload_n 0, 0, 0) := by decide +kernel
theorem vr_170_41 : zrx 170 41 = some (.getfield 31, 18, 9) := by decide +kernel
theorem vr_170_44 : zrx 170 44 = some (.iload_n 1, 0, 0) := by decide +kernel
theorem vr_170_45 : zrx 170 45 = some (.invokeinterface 65 2, 306, 35) := by decide +kernel
theorem vr_170_50 : zrx 170 50 = some (.checkcast 108, 15, 0) := by decide +kernel
theorem vr_170_53 : zrx 170 53 = some (.astore_n 3, 0, 0) := by decide +kernel
theorem vr_170_54 : zrx 170 54 = some (.aload_n 3, 0, 0) := by decide +kernel
theorem vr_170_55 : zrx 170 55 = some (.iload_n 2, 0, 0) := by decide +kernel
theorem vr_170_56 : zrx 170 56 = some (.iconst 2, 0, 0) := by decide +kernel
theorem vr_170_57 : zrx 170 57 = some (.if_icmp .lt 7, 0, 0) := by decide +kernel
theorem vr_170_60 : zrx 170 60 = some (.iconst 1, 0, 0) := by decide +kernel
theorem vr_170_61 : zrx 170 61 = some (.goto 4, 0, 0) := by decide +kernel
theorem vr_170_64 : zrx 170 64 = some (.iconst 3, 0, 0) := by decide +kernel
theorem vr_170_65 : zrx 170 65 = some (.putfield 235, 15, 9) := by decide +kernel
theorem vr_170_68 : zrx 170 68 = some (.aload_n 3, 0, 0) := by decide +kernel
theorem vr_170_69 : zrx 170 69 = some (.iload_n 2, 0, 0) := by decide +kernel
theorem vr_170_70 : zrx 170 70 = some (.iconst 2, 0, 0) := by decide +kernel
theorem vr_170_71 : zrx 170 71 = some (.if_icmp .lt 13, 0, 0) := by decide +kernel
theorem vr_170_74 : zrx 170 74 = some (.aload_n 0, 0, 0) := by decide +kernel
theorem vr_170_75 : zrx 170 75 = some (.getfield 215, 18, 1) := by decide +kernel
theorem vr_170_78 : zrx 170 78 = some (.bipush 30, 0, 0) := by decide +kernel
theorem vr_170_80 : zrx 170 80 = some (.iadd, 0, 0) := by decide +kernel
theorem vr_170_81 : zrx 170 81 = some (.goto 4, 0, 0) := by decide +kernel
theorem vr_170_84 : zrx 170 84 = some (.iconst (-1), 0, 0) := by decide +kernel
theorem vr_170_85 : zrx 170 85 = some (.putfield 277, 15, 10) := by decide +kernel
theorem vr_170_88 : zrx 170 88 = some (.iconst 0, 0, 0) := by decide +kernel
theorem vr_170_89 : zrx 170 89 = some (.istore 4, 0, 0) := by decide +kernel
theorem vr_170_91 : zrx 170 91 = some (.iload 4, 0, 0) := by decide +kernel
theorem vr_170_93 : zrx 170 93 = some (.iconst 4, 0, 0) := by decide +kernel
theorem vr_170_94 : zrx 170 94 = some (.if_icmp .ge 62, 0, 0) := by decide +kernel
theorem vr_170_97 : zrx 170 97 = some (.aload_n 0, 0, 0) := by decide +kernel
theorem vr_170_98 : zrx 170 98 = some (.getfield 49, 18, 14) := by decide +kernel
theorem vr_170_101 : zrx 170 101 = some (.iload 4, 0, 0) := by decide +kernel
theorem vr_170_103 : zrx 170 103 = some (.iaload, 0, 0) := by decide +kernel
theorem vr_170_104 : zrx 170 104 = some (.iload_n 1, 0, 0) := by decide +kernel
theorem vr_170_105 : zrx 170 105 = some (.if_icmp .eq 6, 0, 0) := by decide +kernel
theorem vr_170_108 : zrx 170 108 = some (.goto 42, 0, 0) := by decide +kernel
theorem vr_170_111 : zrx 170 111 = some (.aload_n 0, 0, 0) := by decide +kernel
theorem vr_170_112 : zrx 170 112 = some (.getfield 49, 18, 14) := by decide +kernel
theorem vr_170_115 : zrx 170 115 = some (.iload 4, 0, 0) := by decide +kernel
theorem vr_170_117 : zrx 170 117 = some (.iconst (-1), 0, 0) := by decide +kernel
theorem vr_170_118 : zrx 170 118 = some (.iastore, 0, 0) := by decide +kernel
theorem vr_170_119 : zrx 170 119 = some (.aload_n 0, 0, 0) := by decide +kernel
theorem vr_170_120 : zrx 170 120 = some (.getfield 43, 18, 12) := by decide +kernel
theorem vr_170_123 : zrx 170 123 = some (.iload 4, 0, 0) := by decide +kernel
theorem vr_170_125 : zrx 170 125 = some (.aaload, 0, 0) := by decide +kernel
theorem vr_170_126 : zrx 170 126 = some (.aload_n 3, 0, 0) := by decide +kernel
theorem vr_170_127 : zrx 170 127 = some (.getfield 183, 15, 0) := by decide +kernel
theorem vr_170_130 : zrx 170 130 = some (.bipush (-5), 0, 0) := by decide +kernel
theorem vr_170_132 : zrx 170 132 = some (.aload_n 0, 0, 0) := by decide +kernel
theorem vr_170_133 : zrx 170 133 = some (.getfield 43, 18, 12) := by decide +kernel
theorem vr_170_136 : zrx 170 136 = some (.iload 4, 0, 0) := by decide +kernel
theorem vr_170_138 : zrx 170 138 = some (.aaload, 0, 0) := by decide +kernel
theorem vr_170_139 : zrx 170 139 = some (.aload_n 3, 0, 0) := by decide +kernel
theorem vr_170_140 : zrx 170 140 = some (.getfield 183, 15, 0) := by decide +kernel
theorem vr_170_143 : zrx 170 143 = some (.iaload, 0, 0) := by decide +kernel
theorem vr_170_144 : zrx 170 144 = some (.iconst 1, 0, 0) := by decide +kernel
theorem vr_170_145 : zrx 170 145 = some (.isub, 0, 0) := by decide +kernel
theorem vr_170_146 : zrx 170 146 = some (.invokestatic 105, 261, 0) := by decide +kernel
theorem vr_170_149 : zrx 170 149 = some (.iastore, 0, 0) := by decide +kernel
theorem vr_170_150 : zrx 170 150 = some (.iinc 4 1, 0, 0) := by decide +kernel
theorem vr_170_153 : zrx 170 153 = some (.goto (-62), 0, 0) := by decide +kernel
theorem vr_170_156 : zrx 170 156 = some (.iload_n 2, 0, 0) := by decide +kernel
theorem vr_170_157 : zrx 170 157 = some (.ireturn, 0, 0) := by decide +kernel
theorem vr_171_0 : zrx 171 0 = some (.aload_n 0, 0, 0) := by decide +kernel
theorem vr_171_1 : zrx 171 1 = some (.iconst 0, 0, 0) := by decide +kernel
theorem vr_171_2 : zrx 171 2 = some (.putfield 55, 18, 0) := by decide +kernel
theorem vr_171_5 : zrx 171 5 = some (.aload_n 0, 0, 0) := by decide +kernel
theorem vr_171_6 : zrx 171 6 = some (.iload_n 1, 0, 0) := by decide +kernel
theorem vr_171_7 : zrx 171 7 = some (.invokevirtual 256, 158, 190) := by decide +kernel
theorem vr_171_10 : zrx 171 10 = some (.ifCond .ne 9, 0, 0) := by decide +kernel
theorem vr_171_13 : zrx 171 13 = some (.aload_n 0, 0, 0) := by decide +kernel
theorem vr_171_14 : zrx 171 14 = some (.iconst 1, 0, 0) := by decide +kernel
theorem vr_171_15 : zrx 171 15 = some (.invokevirtual 212, 131, 190) := by decide +kernel
theorem vr_171_18 : zrx 171 18 = some (.ireturn, 0, 0) := by decide +kernel
theorem vr_171_19 : zrx 171 19 = some (.aload_n 0, 0, 0) := by decide +kernel
theorem vr_171_20 : zrx 171 20 = some (.getfield 31, 18, 9) := by decide +kernel
theorem vr_171_23 : zrx 171 23 = some (.iload_n 1, 0, 0) := by decide +kernel
theorem vr_171_24 : zrx 171 24 = some (.invokeinterface 65 2, 306, 35) := by decide +kernel
theorem vr_171_29 : zrx 171 29 = some (.checkcast 108, 15, 0) := by decide +kernel
theorem vr_171_32 : zrx 171 32 = some (.astore_n 2, 0, 0) := by decide +kernel
theorem vr_171_33 : zrx 171 33 = some (.aload_n 2, 0, 0) := by decide +kernel
theorem vr_171_34 : zrx 171 34 = some (.getfield 235, 15, 9) := by decide +kernel
theorem vr_171_37 : zrx 171 37 = some (.iconst 1, 0, 0) := by decide +kernel
theorem vr_171_38 : zrx 171 38 = some (.if_icmp .eq 9, 0, 0) := by decide +kernel
theorem vr_171_41 : zrx 171 41 = some (.aload_n 0, 0, 0) := by decide +kernel
theorem vr_171_42 : zrx 171 42 = some (.iconst 2, 0, 0) := by decide +kernel
theorem vr_171_43 : zrx 171 43 = some (.invokevirtual 212, 131, 190) := by decide +kernel
theorem vr_171_46 : zrx 171 46 = some (.ireturn, 0, 0) := by decide +kernel
theorem vr_171_47 : zrx 171 47 = some (.aload_n 0, 0, 0) := by decide +kernel
theorem vr_171_48 : zrx 171 48 = some (.iload_n 1, 0, 0) := by decide +kernel
theorem vr_171_49 : zrx 171 49 = some (.iconst 1, 0, 0) := by decide +kernel
theorem vr_171_50 : zrx 171 50 = some (.invokevirtual 273, 169, 190) := by decide +kernel
theorem vr_171_53 : zrx 171 53 = some (.istore_n 3, 0, 0) := by decide +kernel
theorem vr_171_54 : zrx 171 54 = some (.iload_n 3, 0, 0) := by decide +kernel
theorem vr_171_55 : zrx 171 55 = some (.iconst 2, 0, 0) := by decide +kernel
theorem vr_171_56 : zrx 171 56 = some (.if_icmp .lt 19, 0, 0) := by decide +kernel
theorem vr_171_59 : zrx 171 59 = some (.aload_n 2, 0, 0) := by decide +kernel
theorem vr_171_60 : zrx 171 60 = some (.iconst 2, 0, 0) := by decide +kernel
theorem vr_171_61 : zrx 171 61 = some (.putfield 235, 15, 9) := by decide +kernel
theorem vr_171_64 : zrx 171 64 = some (.aload_n 2, 0, 0) := by decide +kernel
theorem vr_171_65 : zrx 171 65 = some (.aload_n 0, 0, 0) := by decide +kernel
theorem vr_171_66 : zrx 171 66 = some (.getfield 215, 18, 1) := by decide +kernel
theorem vr_171_69 : zrx 171 69 = some (.bipush 30, 0, 0) := by decide +kernel
theorem vr_171_71 : zrx 171 71 = some (.iadd, 0, 0) := by decide +kernel
theorem vr_171_72 : zrx 171 72 = some (.putfield 280, 15, 11) := by decide +kernel
theorem vr_171_75 : zrx 171 75 = some (.iload_n 3, 0, 0) := by decide +kernel
theorem vr_171_76 : zrx 171 76 = some (.ireturn, 0, 0) := by decide +kernel
theorem vr_220_0 : zrx 220 0 = some (.aload_n 3, 0, 0) := by decide +kernel
theorem vr_220_1 : zrx 220 1 = some (.aload_n 0, 0, 0) := by decide +kernel
theorem vr_220_2 : zrx 220 2 = some (.iload_n 1, 0, 0) := by decide +kernel
theorem vr_220_3 : zrx 220 3 = some (.iload_n 2, 0, 0) := by decide +kernel
theorem vr_220_4 : zrx 220 4 = some (.invokevirtual 63, 69, 140) := by decide +kernel
theorem vr_220_7 : zrx 220 7 = some (.i2l, 0, 0) := by decide +kernel
theorem vr_220_8 : zrx 220 8 = some (.putfield 13, 14, 1000) := by decide +kernel
theorem vr_220_11 : zrx 220 11 = some (.goto 11, 0, 0) := by decide +kernel
theorem vr_220_14 : zrx 220 14 = some (.astore 4, 0, 0) := by decide +kernel
theorem vr_220_16 : zrx 220 16 = some (.iconst 1, 0, 0) := by decide +kernel
theorem vr_220_17 : zrx 220 17 = some (.ireturn, 0, 0) := by decide +kernel
theorem vr_220_18 : zrx 220 18 = some (.astore 4, 0, 0) := by decide +kernel
theorem vr_220_20 : zrx 220 20 = some (.iconst 2, 0, 0) := by decide +kernel
theorem vr_220_21 : zrx 220 21 = some (.ireturn, 0, 0) := by decide +kernel
theorem vr_220_22 : zrx 220 22 = some (.iconst 0, 0, 0) := by decide +kernel
theorem vr_220_23 : zrx 220 23 = some (.ireturn, 0, 0) := by decide +kernel
theorem vr_221_0 : zrx 221 0 = some (.aload_n 2, 0, 0) := by decide +kernel
theorem vr_221_1 : zrx 221 1 = some (.aload_n 0, 0, 0) := by decide +kernel
theorem vr_221_2 : zrx 221 2 = some (.iload_n 1, 0, 0) := by decide +kernel
theorem vr_221_3 : zrx 221 3 = some (.invokevirtual 66, 70, 140) := by decide +kernel
theorem vr_221_6 : zrx 221 6 = some (.i2l, 0, 0) := by decide +kernel
theorem vr_221_7 : zrx 221 7 = some (.putfield 13, 14, 1000) := by decide +kernel
theorem vr_221_10 : zrx 221 10 = some (.goto 9, 0, 0) := by decide +kernel
theorem vr_221_13 : zrx 221 13 = some (.astore_n 3, 0, 0) := by decide +kernel
theorem vr_221_14 : zrx 221 14 = some (.iconst 1, 0, 0) := by decide +kernel
theorem vr_221_15 : zrx 221 15 = some (.ireturn, 0, 0) := by decide +kernel
theorem vr_221_16 : zrx 221 16 = some (.astore_n 3, 0, 0) := by decide +kernel
theorem vr_221_17 : zrx 221 17 = some (.iconst 2, 0, 0) := by decide +kernel
theorem vr_221_18 : zrx 221 18 = some (.ireturn, 0, 0) := by decide +kernel
theorem vr_221_19 : zrx 221 19 = some (.iconst 0, 0, 0) := by decide +kernel
theorem vr_221_20 : zrx 221 20 = some (.ireturn, 0, 0) := by decide +kernel
theorem vr_222_0 : zrx 222 0 = some (.aload_n 2, 0, 0) := by decide +kernel
theorem vr_222_1 : zrx 222 1 = some (.aload_n 0, 0, 0) := by decide +kernel
theorem vr_222_2 : zrx 222 2 = some (.iload_n 1, 0, 0) := by decide +kernel
theorem vr_222_3 : zrx 222 3 = some (.invokevirtual 69, 71, 140) := by decide +kernel
theorem vr_222_6 : zrx 222 6 = some (.i2l, 0, 0) := by decide +kernel
theorem vr_222_7 : zrx 222 7 = some (.putfield 13, 14, 1000) := by decide +kernel
theorem vr_222_10 : zrx 222 10 = some (.goto 9, 0, 0) := by decide +kernel
theorem vr_222_13 : zrx 222 13 = some (.astore_n 3, 0, 0) := by decide +kernel
theorem vr_222_14 : zrx 222 14 = some (.iconst 1, 0, 0) := by decide +kernel
theorem vr_222_15 : zrx 222 15 = some (.ireturn, 0, 0) := by decide +kernel
theorem vr_222_16 : zrx 222 16 = some (.astore_n 3, 0, 0) := by decide +kernel
theorem vr_222_17 : zrx 222 17 = some (.iconst 2, 0, 0) := by decide +kernel
theorem vr_222_18 : zrx 222 18 = some (.ireturn, 0, 0) := by decide +kernel
theorem vr_222_19 : zrx 222 19 = some (.iconst 0, 0, 0) := by decide +kernel
theorem vr_222_20 : zrx 222 20 = some (.ireturn, 0, 0) := by decide +kernel
theorem vh_69_2_0 : zHit (zi 69) 2 0 = none := by decide +kernel
theorem vh_69_13_0 : zHit (zi 69) 13 0 = none := by decide +kernel
theorem vh_69_36_2 : zHit (zi 69) 36 2 = none := by decide +kernel
theorem vh_69_60_2 : zHit (zi 69) 60 2 = none := by decide +kernel
theorem vh_70_8_0 : zHit (zi 70) 8 0 = none := by decide +kernel
theorem vh_70_33_2 : zHit (zi 70) 33 2 = none := by decide +kernel
theorem vh_71_8_0 : zHit (zi 71) 8 0 = none := by decide +kernel
theorem vh_71_34_2 : zHit (zi 71) 34 2 = none := by decide +kernel
theorem vh_220_4_0 : (zHit (zi 220) 4 0).map (fun r => r.2.2.1) = some 14 := by decide +kernel
theorem vh_220_4_2 : (zHit (zi 220) 4 2).map (fun r => r.2.2.1) = some 18 := by decide +kernel
theorem vh_221_3_0 : (zHit (zi 221) 3 0).map (fun r => r.2.2.1) = some 13 := by decide +kernel
theorem vh_221_3_2 : (zHit (zi 221) 3 2).map (fun r => r.2.2.1) = some 16 := by decide +kernel
theorem vh_222_3_0 : (zHit (zi 222) 3 0).map (fun r => r.2.2.1) = some 13 := by decide +kernel
theorem vh_222_3_2 : (zHit (zi 222) 3 2).map (fun r => r.2.2.1) = some 16 := by decide +kernel
set_option maxRecDepth 20000 in
theorem C_plf_loop {h : List zC} {b : Int32} (hS : Stc h) : ∀ (n k : Nat) (r : Int32) (u : Nat), k ≤ 4 → pcF (fun f => iv h (171 + 3 * f) 3) b k = r → zL zrx zi n 50 4 [(3, .int (Int32.ofNat k)), (2, .int r), (0, .ref 169), (1, .int b)] [] h u (fun o h2 _ => h2 = h ∧ o = .inl (some (.int (pcF (fun f => iv h (171 + 3 * f) 3) b 4))))
  | 0, _, _, _ => fun _ _ => trivial
  | n + 1, k, r, u => fun hk hD => by
    have kk := (toNat_ofNat (m := k) (by omega))
    have z4 : (4 : Int32).toInt = 4 := rfl
    refine zLp vr_50_4 rfl rfl ?_
    refine zSp0 (pc' := 6) (st' := .int (4) :: _) vr_50_5 rfl rfl ?_
    refine zSb2 (f := fun x y => decide (y ≤ x)) (off := 25) (t := 31) vr_50_6 rfl rfl rfl (fun x3130 y3130 e3130 f3130 q3130 => ?_) (fun x3130 y3130 e3130 f3130 q3130 => ?_)
    · cases e3130
      cases f3130
      have c3130 := of_decide_eq_true q3130
      refine zSiload (m := 1) (k := 2) vr_50_31 rfl rfl rfl (fun x3131 e3131 => ?_)
      cases e3131
      refine zLiret vr_50_32 rfl (fun x3132 e3132 => ?_)
      cases e3132
      have e : k = 4 := by
        have y := c3130
        rw [i32_le, kk.2, z4] at y
        omega
      subst e
      rw [hD]
      exact ⟨rfl, rfl⟩
    · cases e3130
      cases f3130
      have c3130 := ndc q3130
      have k4 : k < 4 := by
        have y := c3130
        rw [i32_le, kk.2, z4] at y
        omega
      have hI : gF h 170 (Int32.ofNat k).toNatClampNeg = some (.ref (171 + 3 * k)) := by
        rw [kk.1]
        exact st_fac hS k4
      refine zSaload (m := 1) (k := 0) vr_50_9 rfl rfl rfl ?_
      refine zLget vr_50_10 rfl (fun p3134 w3134 e3134 t3134 g3134 => ?_)
      cases e3134
      first | (rw [(st_169_0 hS)] at g3134; cases g3134) | (rw [hI] at g3134; cases g3134) | skip
      refine zSiload (m := 1) (k := 3) vr_50_13 rfl rfl rfl (fun x3135 e3135 => ?_)
      cases e3135
      refine zLaald vr_50_14 rfl (fun p3136 x3136 w3136 e3136 f3136 c3136 t3136 g3136 => ?_)
      cases e3136
      cases f3136
      first | (rw [(st_169_0 hS)] at g3136; cases g3136) | (rw [hI] at g3136; cases g3136) | skip
      refine zLget vr_50_15 rfl (fun p3137 w3137 e3137 t3137 g3137 => ?_)
      cases e3137
      first | (rw [(st_169_0 hS)] at g3137; cases g3137) | (rw [hI] at g3137; cases g3137) | skip
      refine zSiload (m := 1) (k := 1) vr_50_18 rfl rfl rfl (fun x3138 e3138 => ?_)
      cases e3138
      refine zSb2 (f := fun x y => decide (¬ x = y)) (off := 6) (t := 25) vr_50_19 rfl rfl rfl (fun x3139 y3139 e3139 f3139 q3139 => ?_) (fun x3139 y3139 e3139 f3139 q3139 => ?_)
      · cases e3139
        cases f3139
        have c3139 := of_decide_eq_true q3139
        refine zSiinc vr_50_25 rfl rfl (fun x3140 e3140 => ?_)
        cases e3140
        show zL zrx zi _ 50 28 [(3, _), (2, _), (0, _), (1, _)] [] _ _ _
        refine zSgo (t := 4) vr_50_28 rfl rfl ?_
        rw [ofNat_succ]
        refine zL_pm _ _ _ [(3, _), (2, _), (0, _), (1, _)] _ _ _ _ _ ⟨(List.forall_mem_cons.mpr ⟨List.mem_cons_self, (List.forall_mem_cons.mpr ⟨(List.mem_cons_of_mem _ List.mem_cons_self), (List.forall_mem_cons.mpr ⟨(List.mem_cons_of_mem _ (List.mem_cons_of_mem _ List.mem_cons_self)), (List.forall_mem_cons.mpr ⟨(List.mem_cons_of_mem _ (List.mem_cons_of_mem _ (List.mem_cons_of_mem _ List.mem_cons_self))), (fun _ h => absurd h List.not_mem_nil)⟩)⟩)⟩)⟩), show ([3, 2, 0, 1] : List Nat).Nodup by decide⟩ (C_plf_loop hS n (k + 1) _ _ (by omega) ?_)
        first
          | exact (pcF_n (by rw [iv_of g3137]; exact c3139)).trans hD
          | exact (pcF_y (by rw [iv_of g3137]; exact Decidable.not_not.mp c3139)).trans (by rw [hD]; rfl)
      · cases e3139
        cases f3139
        have c3139 := ndc q3139
        refine zSiinc vr_50_22 rfl rfl (fun x3142 e3142 => ?_)
        cases e3142
        show zL zrx zi _ 50 25 [(2, _), (3, _), (0, _), (1, _)] [] _ _ _
        refine zSiinc vr_50_25 rfl rfl (fun x3143 e3143 => ?_)
        cases e3143
        show zL zrx zi _ 50 28 [(3, _), (2, _), (0, _), (1, _)] [] _ _ _
        refine zSgo (t := 4) vr_50_28 rfl rfl ?_
        rw [ofNat_succ]
        refine zL_pm _ _ _ [(3, _), (2, _), (0, _), (1, _)] _ _ _ _ _ ⟨(List.forall_mem_cons.mpr ⟨List.mem_cons_self, (List.forall_mem_cons.mpr ⟨(List.mem_cons_of_mem _ List.mem_cons_self), (List.forall_mem_cons.mpr ⟨(List.mem_cons_of_mem _ (List.mem_cons_of_mem _ List.mem_cons_self)), (List.forall_mem_cons.mpr ⟨(List.mem_cons_of_mem _ (List.mem_cons_of_mem _ (List.mem_cons_of_mem _ List.mem_cons_self))), (fun _ h => absurd h List.not_mem_nil)⟩)⟩)⟩)⟩), show ([3, 2, 0, 1] : List Nat).Nodup by decide⟩ (C_plf_loop hS n (k + 1) _ _ (by omega) ?_)
        first
          | exact (pcF_n (by rw [iv_of g3137]; exact c3139)).trans hD
          | exact (pcF_y (by rw [iv_of g3137]; exact Decidable.not_not.mp c3139)).trans (by rw [hD]; rfl)
theorem C_plf (n : Nat) (b : Int32) (h : List zC) (u : Nat) (hS : Stc h) : zL zrx zi n 50 0 [(0, .ref 169), (1, .int b)] [] h u (fun o h2 _ => h2 = h ∧ o = .inl (some (.int (pcF (fun f => iv h (171 + 3 * f) 3) b 4)))) := by
  refine zSp0 (pc' := 1) (st' := .int (0) :: _) vr_50_0 rfl rfl ?_
  refine zSistore (m := 1) (k := 2) vr_50_1 rfl rfl (fun x3146 e3146 => ?_)
  cases e3146
  show zL zrx zi _ 50 2 [(2, _), (0, _), (1, _)] [] _ _ _
  refine zSp0 (pc' := 3) (st' := .int (0) :: _) vr_50_2 rfl rfl ?_
  refine zSistore (m := 1) (k := 3) vr_50_3 rfl rfl (fun x3148 e3148 => ?_)
  cases e3148
  show zL zrx zi _ 50 4 [(3, _), (2, _), (0, _), (1, _)] [] _ _ _
  exact zL_pm _ _ _ [(3, _), (2, _), (0, _), (1, _)] _ _ _ _ _ ⟨(List.forall_mem_cons.mpr ⟨List.mem_cons_self, (List.forall_mem_cons.mpr ⟨(List.mem_cons_of_mem _ List.mem_cons_self), (List.forall_mem_cons.mpr ⟨(List.mem_cons_of_mem _ (List.mem_cons_of_mem _ List.mem_cons_self)), (List.forall_mem_cons.mpr ⟨(List.mem_cons_of_mem _ (List.mem_cons_of_mem _ (List.mem_cons_of_mem _ List.mem_cons_self))), (fun _ h => absurd h List.not_mem_nil)⟩)⟩)⟩)⟩), show ([3, 2, 0, 1] : List Nat).Nodup by decide⟩ (C_plf_loop hS _ 0 0 _ (by omega) rfl)
theorem C_pledge (n : Nat) (f b : Int32) (h : List zC) (u : Nat) {cnt : Int32} (hS : Stc h) (hc : gF h 71 2 = some (.int cnt)) (hc2 : cnt.toInt ≤ 24) : zL zrx zi n 69 0 [(0, .ref 16), (1, .int f), (2, .int b)] [] h u (fun o h2 _ => match o with
  | .inl v => ((iN 4 f ∧ iN cnt.toInt b) ∧ iv h (73 + 4 * b.toNatClampNeg) 2 = 0 ∧ iv h (171 + 3 * f.toNatClampNeg) 3 = -1) ∧ ∃ y : Int32, v = some (.int y) ∧ hPut h h2 (171 + 3 * f.toNatClampNeg) 3 (.int b) ∧ y = pcF (fun k => iv h2 (171 + 3 * k) 3) b 4
  | .inr E => hExt h h2 ∧ ((E = 0 ∧ ¬ (iN 4 f ∧ iN cnt.toInt b)) ∨ (E = 2 ∧ (iN 4 f ∧ iN cnt.toInt b) ∧ ¬ (iv h (73 + 4 * b.toNatClampNeg) 2 = 0 ∧ iv h (171 + 3 * f.toNatClampNeg) 3 = -1)))) := by
  refine zSiload (m := 1) (k := 1) vr_69_0 rfl rfl rfl (fun x3149 e3149 => ?_)
  cases e3149
  refine zSp0 (pc' := 2) (st' := .int (4) :: _) vr_69_1 rfl rfl ?_
  refine zScall vr_69_2 rfl rfl rfl (fun m3151 _ => C_num6 _ _ _ _ (m := 4) (by rfl)) (fun v3151 h3151 u3151 q3151 => ?_) (fun E3151 h3151 u3151 q3151 => ?_)
  · obtain ⟨eh3151, rfl, r1⟩ := q3151
    replace eh3151 := eh3151.symm
    subst eh3151
    show zL zrx zi _ 69 5 [(0, _), (1, _), (2, _)] [] _ _ _
    refine zSiload (m := 1) (k := 2) vr_69_5 rfl rfl rfl (fun x3152 e3152 => ?_)
    cases e3152
    refine zSaload (m := 1) (k := 0) vr_69_6 rfl rfl rfl ?_
    refine zLget vr_69_7 rfl (fun p3154 w3154 e3154 t3154 g3154 => ?_)
    cases e3154
    first | (rw [(st_16_11 hS)] at g3154; cases g3154) | (rw [(st_169_0 hS)] at g3154; cases g3154) | (rw [(st_fac hS (iN4 r1))] at g3154; cases g3154) | (rw [(st_16_10 hS)] at g3154; cases g3154) | (rw [hc] at g3154; cases g3154) | (rw [(st_71_0 hS)] at g3154; cases g3154) | (rw [(st_art hS (n24i r2 hc2))] at g3154; cases g3154) | skip
    refine zLget vr_69_10 rfl (fun p3155 w3155 e3155 t3155 g3155 => ?_)
    cases e3155
    first | (rw [(st_16_11 hS)] at g3155; cases g3155) | (rw [(st_169_0 hS)] at g3155; cases g3155) | (rw [(st_fac hS (iN4 r1))] at g3155; cases g3155) | (rw [(st_16_10 hS)] at g3155; cases g3155) | (rw [hc] at g3155; cases g3155) | (rw [(st_71_0 hS)] at g3155; cases g3155) | (rw [(st_art hS (n24i r2 hc2))] at g3155; cases g3155) | skip
    refine zScall vr_69_13 rfl rfl rfl (fun m3156 _ => C_num6 _ _ _ _ (m := cnt.toInt) rfl) (fun v3156 h3156 u3156 q3156 => ?_) (fun E3156 h3156 u3156 q3156 => ?_)
    · obtain ⟨eh3156, rfl, r2⟩ := q3156
      replace eh3156 := eh3156.symm
      subst eh3156
      show zL zrx zi _ 69 16 [(0, _), (1, _), (2, _)] [] _ _ _
      refine zSaload (m := 1) (k := 0) vr_69_16 rfl rfl rfl ?_
      refine zLget vr_69_17 rfl (fun p3158 w3158 e3158 t3158 g3158 => ?_)
      cases e3158
      first | (rw [(st_16_11 hS)] at g3158; cases g3158) | (rw [(st_169_0 hS)] at g3158; cases g3158) | (rw [(st_fac hS (iN4 r1))] at g3158; cases g3158) | (rw [(st_16_10 hS)] at g3158; cases g3158) | (rw [hc] at g3158; cases g3158) | (rw [(st_71_0 hS)] at g3158; cases g3158) | (rw [(st_art hS (n24i r2 hc2))] at g3158; cases g3158) | skip
      refine zLget vr_69_20 rfl (fun p3159 w3159 e3159 t3159 g3159 => ?_)
      cases e3159
      first | (rw [(st_16_11 hS)] at g3159; cases g3159) | (rw [(st_169_0 hS)] at g3159; cases g3159) | (rw [(st_fac hS (iN4 r1))] at g3159; cases g3159) | (rw [(st_16_10 hS)] at g3159; cases g3159) | (rw [hc] at g3159; cases g3159) | (rw [(st_71_0 hS)] at g3159; cases g3159) | (rw [(st_art hS (n24i r2 hc2))] at g3159; cases g3159) | skip
      refine zSiload (m := 1) (k := 2) vr_69_23 rfl rfl rfl (fun x3160 e3160 => ?_)
      cases e3160
      refine zLaald vr_69_24 rfl (fun p3161 x3161 w3161 e3161 f3161 c3161 t3161 g3161 => ?_)
      cases e3161
      cases f3161
      first | (rw [(st_16_11 hS)] at g3161; cases g3161) | (rw [(st_169_0 hS)] at g3161; cases g3161) | (rw [(st_fac hS (iN4 r1))] at g3161; cases g3161) | (rw [(st_16_10 hS)] at g3161; cases g3161) | (rw [hc] at g3161; cases g3161) | (rw [(st_71_0 hS)] at g3161; cases g3161) | (rw [(st_art hS (n24i r2 hc2))] at g3161; cases g3161) | skip
      refine zLget vr_69_25 rfl (fun p3162 w3162 e3162 t3162 g3162 => ?_)
      cases e3162
      first | (rw [(st_16_11 hS)] at g3162; cases g3162) | (rw [(st_169_0 hS)] at g3162; cases g3162) | (rw [(st_fac hS (iN4 r1))] at g3162; cases g3162) | (rw [(st_16_10 hS)] at g3162; cases g3162) | (rw [hc] at g3162; cases g3162) | (rw [(st_71_0 hS)] at g3162; cases g3162) | (rw [(st_art hS (n24i r2 hc2))] at g3162; cases g3162) | skip
      refine zSb1 (f := fun x => decide (¬ x = 0)) (off := 7) (t := 35) vr_69_28 rfl rfl rfl (fun x3163 e3163 q3163 => ?_) (fun x3163 e3163 q3163 => ?_)
      · cases e3163
        have c3163 := of_decide_eq_true q3163
        refine zSp0 (pc' := 36) (st' := .int (0) :: _) vr_69_35 rfl rfl ?_
        refine zScall vr_69_36 rfl rfl rfl (fun m _ => C_needState _ _ _ _) (fun v h u q => absurd rfl q.2.2) (fun E h3 u q => ?_)
        obtain ⟨rfl, -, q2⟩ := q
        rw [zCat_no vh_69_36_2]
        exact ⟨q2, Or.inr ⟨rfl, ⟨r1, r2⟩, fun z => c3163 ((iv_of g3162).symm.trans z.1)⟩⟩
      · cases e3163
        have c3163 := ndc q3163
        refine zSp0 (pc' := 32) (st' := .int (1) :: _) vr_69_31 rfl rfl ?_
        refine zSgo (t := 36) vr_69_32 rfl rfl ?_
        refine zScall vr_69_36 rfl rfl rfl (fun m3166 _ => C_needState _ _ _ _) (fun v3166 h3166 u3166 q3166 => ?_) (fun E3166 h3166 u3166 q3166 => ?_)
        · obtain ⟨eh3166, rfl, -⟩ := q3166
          replace eh3166 := eh3166.symm
          subst eh3166
          show zL zrx zi _ 69 39 [(0, _), (1, _), (2, _)] [] _ _ _
          refine zSaload (m := 1) (k := 0) vr_69_39 rfl rfl rfl ?_
          refine zLget vr_69_40 rfl (fun p3168 w3168 e3168 t3168 g3168 => ?_)
          cases e3168
          first | (rw [(st_16_11 hS)] at g3168; cases g3168) | (rw [(st_169_0 hS)] at g3168; cases g3168) | (rw [(st_fac hS (iN4 r1))] at g3168; cases g3168) | (rw [(st_16_10 hS)] at g3168; cases g3168) | (rw [hc] at g3168; cases g3168) | (rw [(st_71_0 hS)] at g3168; cases g3168) | (rw [(st_art hS (n24i r2 hc2))] at g3168; cases g3168) | skip
          refine zLget vr_69_43 rfl (fun p3169 w3169 e3169 t3169 g3169 => ?_)
          cases e3169
          first | (rw [(st_16_11 hS)] at g3169; cases g3169) | (rw [(st_169_0 hS)] at g3169; cases g3169) | (rw [(st_fac hS (iN4 r1))] at g3169; cases g3169) | (rw [(st_16_10 hS)] at g3169; cases g3169) | (rw [hc] at g3169; cases g3169) | (rw [(st_71_0 hS)] at g3169; cases g3169) | (rw [(st_art hS (n24i r2 hc2))] at g3169; cases g3169) | skip
          refine zSiload (m := 1) (k := 1) vr_69_46 rfl rfl rfl (fun x3170 e3170 => ?_)
          cases e3170
          refine zLaald vr_69_47 rfl (fun p3171 x3171 w3171 e3171 f3171 c3171 t3171 g3171 => ?_)
          cases e3171
          cases f3171
          first | (rw [(st_16_11 hS)] at g3171; cases g3171) | (rw [(st_169_0 hS)] at g3171; cases g3171) | (rw [(st_fac hS (iN4 r1))] at g3171; cases g3171) | (rw [(st_16_10 hS)] at g3171; cases g3171) | (rw [hc] at g3171; cases g3171) | (rw [(st_71_0 hS)] at g3171; cases g3171) | (rw [(st_art hS (n24i r2 hc2))] at g3171; cases g3171) | skip
          refine zLget vr_69_48 rfl (fun p3172 w3172 e3172 t3172 g3172 => ?_)
          cases e3172
          first | (rw [(st_16_11 hS)] at g3172; cases g3172) | (rw [(st_169_0 hS)] at g3172; cases g3172) | (rw [(st_fac hS (iN4 r1))] at g3172; cases g3172) | (rw [(st_16_10 hS)] at g3172; cases g3172) | (rw [hc] at g3172; cases g3172) | (rw [(st_71_0 hS)] at g3172; cases g3172) | (rw [(st_art hS (n24i r2 hc2))] at g3172; cases g3172) | skip
          refine zSp0 (pc' := 52) (st' := .int (-1) :: _) vr_69_51 rfl rfl ?_
          refine zSb2 (f := fun x y => decide (¬ x = y)) (off := 7) (t := 59) vr_69_52 rfl rfl rfl (fun x3174 y3174 e3174 f3174 q3174 => ?_) (fun x3174 y3174 e3174 f3174 q3174 => ?_)
          · cases e3174
            cases f3174
            have c3174 := of_decide_eq_true q3174
            refine zSp0 (pc' := 60) (st' := .int (0) :: _) vr_69_59 rfl rfl ?_
            refine zScall vr_69_60 rfl rfl rfl (fun m _ => C_needState _ _ _ _) (fun v h u q => absurd rfl q.2.2) (fun E h3 u q => ?_)
            obtain ⟨rfl, -, q2⟩ := q
            rw [zCat_no vh_69_60_2]
            exact ⟨q2, Or.inr ⟨rfl, ⟨r1, r2⟩, fun z => c3174 ((iv_of g3172).symm.trans z.2)⟩⟩
          · cases e3174
            cases f3174
            have c3174 := ndc q3174
            refine zSp0 (pc' := 56) (st' := .int (1) :: _) vr_69_55 rfl rfl ?_
            refine zSgo (t := 60) vr_69_56 rfl rfl ?_
            refine zScall vr_69_60 rfl rfl rfl (fun m3177 _ => C_needState _ _ _ _) (fun v3177 h3177 u3177 q3177 => ?_) (fun E3177 h3177 u3177 q3177 => ?_)
            · obtain ⟨eh3177, rfl, -⟩ := q3177
              replace eh3177 := eh3177.symm
              subst eh3177
              show zL zrx zi _ 69 63 [(0, _), (1, _), (2, _)] [] _ _ _
              refine zSaload (m := 1) (k := 0) vr_69_63 rfl rfl rfl ?_
              refine zLget vr_69_64 rfl (fun p3179 w3179 e3179 t3179 g3179 => ?_)
              cases e3179
              first | (rw [(st_16_11 hS)] at g3179; cases g3179) | (rw [(st_169_0 hS)] at g3179; cases g3179) | (rw [(st_fac hS (iN4 r1))] at g3179; cases g3179) | (rw [(st_16_10 hS)] at g3179; cases g3179) | (rw [hc] at g3179; cases g3179) | (rw [(st_71_0 hS)] at g3179; cases g3179) | (rw [(st_art hS (n24i r2 hc2))] at g3179; cases g3179) | skip
              refine zLget vr_69_67 rfl (fun p3180 w3180 e3180 t3180 g3180 => ?_)
              cases e3180
              first | (rw [(st_16_11 hS)] at g3180; cases g3180) | (rw [(st_169_0 hS)] at g3180; cases g3180) | (rw [(st_fac hS (iN4 r1))] at g3180; cases g3180) | (rw [(st_16_10 hS)] at g3180; cases g3180) | (rw [hc] at g3180; cases g3180) | (rw [(st_71_0 hS)] at g3180; cases g3180) | (rw [(st_art hS (n24i r2 hc2))] at g3180; cases g3180) | skip
              refine zSiload (m := 1) (k := 1) vr_69_70 rfl rfl rfl (fun x3181 e3181 => ?_)
              cases e3181
              refine zLaald vr_69_71 rfl (fun p3182 x3182 w3182 e3182 f3182 c3182 t3182 g3182 => ?_)
              cases e3182
              cases f3182
              first | (rw [(st_16_11 hS)] at g3182; cases g3182) | (rw [(st_169_0 hS)] at g3182; cases g3182) | (rw [(st_fac hS (iN4 r1))] at g3182; cases g3182) | (rw [(st_16_10 hS)] at g3182; cases g3182) | (rw [hc] at g3182; cases g3182) | (rw [(st_71_0 hS)] at g3182; cases g3182) | (rw [(st_art hS (n24i r2 hc2))] at g3182; cases g3182) | skip
              refine zSiload (m := 1) (k := 2) vr_69_72 rfl rfl rfl (fun x3183 e3183 => ?_)
              cases e3183
              refine zLput vr_69_73 rfl (fun p3184 k3184 e3184 t3184 g3184 => ?_)
              cases e3184
              have hS2 := hS.put g3184 (fac_st (Or.inr rfl))
              refine zSaload (m := 1) (k := 0) vr_69_76 rfl rfl rfl ?_
              refine zLget vr_69_77 rfl (fun p3186 w3186 e3186 t3186 g3186 => ?_)
              cases e3186
              first | (rw [(st_16_11 hS2)] at g3186; cases g3186) | skip
              refine zSiload (m := 1) (k := 2) vr_69_80 rfl rfl rfl (fun x3187 e3187 => ?_)
              cases e3187
              refine zScall vr_69_81 rfl rfl rfl (fun m3188 _ => C_plf _ _ _ _ hS2) (fun v3188 h3188 u3188 q3188 => ?_) (fun E3188 h3188 u3188 q3188 => ?_)
              · obtain ⟨eh3188, z3188⟩ := q3188
                replace eh3188 := eh3188.symm
                subst eh3188
                cases z3188
                show zL zrx zi _ 69 84 [(0, _), (1, _), (2, _)] [_] _ _ _
                refine zLiret vr_69_84 rfl (fun x3189 e3189 => ?_)
                cases e3189
                exact ⟨⟨⟨r1, r2⟩, (iv_of g3162).trans (Decidable.not_not.mp c3163), (iv_of g3172).trans (Decidable.not_not.mp c3174)⟩, _, rfl, g3184, rfl⟩
              · obtain ⟨-, z⟩ := q3188
                cases z
            · obtain ⟨-, z, -⟩ := q3177
              exact absurd z (by decide)
        · obtain ⟨-, z, -⟩ := q3166
          exact absurd z (by decide)
    · obtain ⟨rfl, q1, q2⟩ := q3156
      rw [zCat_no vh_69_13_0]
      exact ⟨q2, Or.inl ⟨rfl, fun z => q1 z.2⟩⟩
  · obtain ⟨rfl, q1, q2⟩ := q3151
    rw [zCat_no vh_69_2_0]
    exact ⟨q2, Or.inl ⟨rfl, fun z => q1 z.1⟩⟩
abbrev Q_Lpledge (cnt : Int32) (f b : Int32) (h : List zC) : zK := fun o h2 _ => ∃ k : Int32, o = .inl (some (.int k)) ∧
  ((k = 0 ∧ ((iN 4 f ∧ iN cnt.toInt b) ∧ iv h (73 + 4 * b.toNatClampNeg) 2 = 0 ∧ iv h (171 + 3 * f.toNatClampNeg) 3 = -1) ∧ ∃ (h1 : List zC) (y : Int32), hPut h h1 (171 + 3 * f.toNatClampNeg) 3 (.int b) ∧ y = pcF (fun k => iv h1 (171 + 3 * k) 3) b 4 ∧ hPut h1 h2 238 0 (.long y.toInt64)) ∨ (k = 1 ∧ ¬ (iN 4 f ∧ iN cnt.toInt b) ∧ hExt h h2) ∨ (k = 2 ∧ (iN 4 f ∧ iN cnt.toInt b) ∧ ¬ (iv h (73 + 4 * b.toNatClampNeg) 2 = 0 ∧ iv h (171 + 3 * f.toNatClampNeg) 3 = -1) ∧ hExt h h2))
theorem C_Lpledge (n : Nat) (f b : Int32) (h : List zC) (u : Nat) {cnt : Int32} (hS : Stc h) (hc : gF h 71 2 = some (.int cnt)) (hc2 : cnt.toInt ≤ 24) : zL zrx zi n 220 0 [(0, .ref 16), (1, .int f), (2, .int b), (3, .ref 238)] [] h u (Q_Lpledge cnt f b h) := by
  refine zSaload (m := 1) (k := 3) vr_220_0 rfl rfl rfl ?_
  refine zSaload (m := 1) (k := 0) vr_220_1 rfl rfl rfl ?_
  refine zSiload (m := 1) (k := 1) vr_220_2 rfl rfl rfl (fun x3192 e3192 => ?_)
  cases e3192
  refine zSiload (m := 1) (k := 2) vr_220_3 rfl rfl rfl (fun x3193 e3193 => ?_)
  cases e3193
  refine zScall vr_220_4 rfl rfl rfl (fun m3194 _ => C_pledge _ _ _ _ _ hS hc hc2) (fun v3194 h3194 u3194 q3194 => ?_) (fun E3194 h3194 u3194 q3194 => ?_)
  · obtain ⟨k1, y3194, rfl, k2, k3⟩ := q3194
    show zL zrx zi _ 220 7 [(0, _), (1, _), (2, _), (3, _)] [_, _] _ _ _
    refine zS1 (f := fun x => .long x.toInt64) vr_220_7 rfl rfl (fun x3195 e3195 => ?_)
    cases e3195
    refine zLput vr_220_8 rfl (fun p3196 k3196 e3196 t3196 g3196 => ?_)
    cases e3196
    have gP := g3196
    refine zSgo (t := 22) vr_220_11 rfl rfl ?_
    refine zSp0 (pc' := 23) (st' := .int (0) :: _) vr_220_22 rfl rfl ?_
    refine zLiret vr_220_23 rfl (fun x3199 e3199 => ?_)
    cases e3199
    exact ⟨_, rfl, Or.inl ⟨rfl, k1, _, _, k2, k3, gP⟩⟩
  · obtain ⟨q1, ⟨rfl, z⟩ | ⟨rfl, z⟩⟩ := q3194
    · rw [zCat_hit (k := 4) (m := 2) vh_220_4_0 vr_220_14 rfl (by decide)]
      show zL zrx zi _ 220 16 [(0, _), (1, _), (2, _), (3, _)] [] _ _ _
      refine zSp0 (pc' := 17) (st' := .int (1) :: _) vr_220_16 rfl rfl ?_
      refine zLiret vr_220_17 rfl (fun x3201 e3201 => ?_)
      cases e3201
      exact ⟨_, rfl, Or.inr (Or.inl ⟨rfl, z, q1⟩)⟩
    · rw [zCat_hit (k := 4) (m := 2) vh_220_4_2 vr_220_18 rfl (by decide)]
      show zL zrx zi _ 220 20 [(0, _), (1, _), (2, _), (3, _)] [] _ _ _
      refine zSp0 (pc' := 21) (st' := .int (2) :: _) vr_220_20 rfl rfl ?_
      refine zLiret vr_220_21 rfl (fun x3203 e3203 => ?_)
      cases e3203
      exact ⟨_, rfl, Or.inr (Or.inr ⟨rfl, z.1, z.2, q1⟩)⟩
set_option maxRecDepth 20000 in
theorem C_rel_loop {h : List zC} {A C : Nat} {mv : Int32} (hS : Stc h) (hA : A < 169) : ∀ (n k : Nat) (w : Value) (hk : List zC) (u : Nat), k ≤ 4 → rLC mv.toNatClampNeg h hk (iv h A 0) k → zL zrx zi n 53 10 [(3, .int (Int32.ofNat k)), (2, .int mv), (0, .ref 169), (1, .ref A), (4, w)] [] hk u (fun o h2 _ => o = .inl none ∧ rLC mv.toNatClampNeg h h2 (iv h A 0) 4)
  | 0, _, _, _, _ => fun _ _ => trivial
  | n + 1, k, w, hk, u => fun k4 r => by
    have kk := (toNat_ofNat (m := k) (by omega))
    have z4 : (4 : Int32).toInt = 4 := rfl
    have hS2 : Stc hk := r.stc hS (fun f hf => fac_st (Or.inr rfl)) (fun f hf => row_st (Or.inl (by omega)))
    refine zLp vr_53_10 rfl rfl ?_
    refine zSp0 (pc' := 12) (st' := .int (4) :: _) vr_53_11 rfl rfl ?_
    refine zSb2 (f := fun x y => decide (y ≤ x)) (off := 56) (t := 68) vr_53_12 rfl rfl rfl (fun x3205 y3205 e3205 f3205 q3205 => ?_) (fun x3205 y3205 e3205 f3205 q3205 => ?_)
    · cases e3205
      cases f3205
      have c3205 := of_decide_eq_true q3205
      refine zSvoid vr_53_68 rfl ?_
      have e : k = 4 := by
        have y := c3205
        rw [i32_le, kk.2, z4] at y
        omega
      subst e
      exact ⟨rfl, r⟩
    · cases e3205
      cases f3205
      have c3205 := ndc q3205
      have k4 : k < 4 := by
        have y := c3205
        rw [i32_le, kk.2, z4] at y
        omega
      have hI : gF hk 170 (Int32.ofNat k).toNatClampNeg = some (.ref (171 + 3 * k)) := by
        rw [kk.1]
        exact st_fac hS2 k4
      have p0 : gF hk (171 + 3 * k) 3 = gF h (171 + 3 * k) 3 := r.2.2.1 _ _ (fun f hf _ => ⟨by dsimp only; omega, by dsimp only; omega⟩)
      have a0 : gF hk A 0 = gF h A 0 := r.2.2.1 _ _ (fun f hf _ => ⟨by dsimp only; omega, by dsimp only; omega⟩)
      have m0 : gF hk (172 + 3 * k) mv.toNatClampNeg = gF h (172 + 3 * k) mv.toNatClampNeg := r.2.2.1 _ _ (fun f hf _ => ⟨by dsimp only; omega, by dsimp only; omega⟩)
      refine zSaload (m := 1) (k := 0) vr_53_15 rfl rfl rfl ?_
      refine zLget vr_53_16 rfl (fun p3208 w3208 e3208 t3208 g3208 => ?_)
      cases e3208
      first | (rw [(st_169_0 hS2)] at g3208; cases g3208) | (rw [hI] at g3208; cases g3208) | (rw [(st_fm hS2 k4)] at g3208; cases g3208) | (rw [(st_fm hS3 k4)] at g3208; cases g3208) | skip
      refine zSiload (m := 1) (k := 3) vr_53_19 rfl rfl rfl (fun x3209 e3209 => ?_)
      cases e3209
      refine zLaald vr_53_20 rfl (fun p3210 x3210 w3210 e3210 f3210 c3210 t3210 g3210 => ?_)
      cases e3210
      cases f3210
      first | (rw [(st_169_0 hS2)] at g3210; cases g3210) | (rw [hI] at g3210; cases g3210) | (rw [(st_fm hS2 k4)] at g3210; cases g3210) | (rw [(st_fm hS3 k4)] at g3210; cases g3210) | skip
      refine zSastore (m := 2) (k := 4) vr_53_21 rfl rfl ?_
      show zL zrx zi _ 53 23 [(4, _), (3, _), (2, _), (0, _), (1, _)] [] _ _ _
      refine zSaload (m := 2) (k := 4) vr_53_23 rfl rfl rfl ?_
      refine zLget vr_53_25 rfl (fun p3213 w3213 e3213 t3213 g3213 => ?_)
      cases e3213
      first | (rw [(st_169_0 hS2)] at g3213; cases g3213) | (rw [hI] at g3213; cases g3213) | (rw [(st_fm hS2 k4)] at g3213; cases g3213) | (rw [(st_fm hS3 k4)] at g3213; cases g3213) | skip
      refine zSaload (m := 1) (k := 1) vr_53_28 rfl rfl rfl ?_
      refine zLget vr_53_29 rfl (fun p3215 w3215 e3215 t3215 g3215 => ?_)
      cases e3215
      first | (rw [(st_169_0 hS2)] at g3215; cases g3215) | (rw [hI] at g3215; cases g3215) | (rw [(st_fm hS2 k4)] at g3215; cases g3215) | (rw [(st_fm hS3 k4)] at g3215; cases g3215) | skip
      refine zSb2 (f := fun x y => decide (¬ x = y)) (off := 30) (t := 62) vr_53_32 rfl rfl rfl (fun x3216 y3216 e3216 f3216 q3216 => ?_) (fun x3216 y3216 e3216 f3216 q3216 => ?_)
      · cases e3216
        cases f3216
        have c3216 := of_decide_eq_true q3216
        refine zSiinc vr_53_62 rfl rfl (fun x3217 e3217 => ?_)
        cases e3217
        show zL zrx zi _ 53 65 [(3, _), (4, _), (2, _), (0, _), (1, _)] [] _ _ _
        refine zSgo (t := 10) vr_53_65 rfl rfl ?_
        rw [ofNat_succ]
        have hn : ¬ iv h (171 + 3 * k) 3 = iv h A 0 := fun z => c3216 (by
          rw [← iv_of (p0.symm.trans g3213), ← iv_of (a0.symm.trans g3215)]
          exact z)
        exact zL_pm _ _ _ [(3, _), (2, _), (0, _), (1, _), (4, _)] _ _ _ _ _ ⟨(List.forall_mem_cons.mpr ⟨List.mem_cons_self, (List.forall_mem_cons.mpr ⟨(List.mem_cons_of_mem _ (List.mem_cons_of_mem _ (List.mem_cons_of_mem _ (List.mem_cons_of_mem _ List.mem_cons_self)))), (List.forall_mem_cons.mpr ⟨(List.mem_cons_of_mem _ List.mem_cons_self), (List.forall_mem_cons.mpr ⟨(List.mem_cons_of_mem _ (List.mem_cons_of_mem _ List.mem_cons_self)), (List.forall_mem_cons.mpr ⟨(List.mem_cons_of_mem _ (List.mem_cons_of_mem _ (List.mem_cons_of_mem _ List.mem_cons_self))), (fun _ h => absurd h List.not_mem_nil)⟩)⟩)⟩)⟩)⟩), show ([3, 2, 0, 1, 4] : List Nat).Nodup by decide⟩ (C_rel_loop (C := C) hS hA n (k + 1) _ _ _ (by omega) (r.skip hn))
      · cases e3216
        cases f3216
        have c3216 := ndc q3216
        refine zSaload (m := 2) (k := 4) vr_53_35 rfl rfl rfl ?_
        refine zSp0 (pc' := 38) (st' := .int (-1) :: _) vr_53_37 rfl rfl ?_
        refine zLput vr_53_38 rfl (fun p3221 k3221 e3221 t3221 g3221 => ?_)
        cases e3221
        have hS3 := hS2.put g3221 (fac_st (Or.inr rfl))
        refine zSaload (m := 2) (k := 4) vr_53_41 rfl rfl rfl ?_
        refine zLget vr_53_43 rfl (fun p3223 w3223 e3223 t3223 g3223 => ?_)
        cases e3223
        first | (rw [(st_169_0 hS2)] at g3223; cases g3223) | (rw [hI] at g3223; cases g3223) | (rw [(st_fm hS2 k4)] at g3223; cases g3223) | (rw [(st_fm hS3 k4)] at g3223; cases g3223) | skip
        refine zSiload (m := 1) (k := 2) vr_53_46 rfl rfl rfl (fun x3224 e3224 => ?_)
        cases e3224
        refine zSaload (m := 2) (k := 4) vr_53_47 rfl rfl rfl ?_
        refine zLget vr_53_49 rfl (fun p3226 w3226 e3226 t3226 g3226 => ?_)
        cases e3226
        first | (rw [(st_169_0 hS2)] at g3226; cases g3226) | (rw [hI] at g3226; cases g3226) | (rw [(st_fm hS2 k4)] at g3226; cases g3226) | (rw [(st_fm hS3 k4)] at g3226; cases g3226) | skip
        refine zSiload (m := 1) (k := 2) vr_53_52 rfl rfl rfl (fun x3227 e3227 => ?_)
        cases e3227
        refine zLiald vr_53_53 rfl (fun p3228 x3228 w3228 e3228 f3228 c3228 t3228 g3228 => ?_)
        cases e3228
        cases f3228
        first | (rw [(st_169_0 hS2)] at g3228; cases g3228) | (rw [hI] at g3228; cases g3228) | (rw [(st_fm hS2 k4)] at g3228; cases g3228) | (rw [(st_fm hS3 k4)] at g3228; cases g3228) | skip
        refine zSp0 (pc' := 55) (st' := .int (1) :: _) vr_53_54 rfl rfl ?_
        refine zS2 (f := fun x y => .int (x - y)) vr_53_55 rfl rfl (fun x3230 y3230 e3230 f3230 => ?_)
        cases e3230
        cases f3230
        refine zSp0 (pc' := 58) (st' := .int (-5) :: _) vr_53_56 rfl rfl ?_
        refine zScall vr_53_58 rfl rfl rfl (fun m3232 _ => C_mxI _ _ _ _ _) (fun v3232 h3232 u3232 q3232 => ?_) (fun E3232 h3232 u3232 q3232 => ?_)
        · obtain ⟨eh3232, z3232⟩ := q3232
          subst eh3232
          cases z3232
          show zL zrx zi _ 53 61 [(4, _), (3, _), (2, _), (0, _), (1, _)] [_, _, _] _ _ _
          refine zLiast vr_53_61 rfl (fun p3233 x3233 z3233 k3233 e3233 f3233 d3233 c3233 t3233 g3233 => ?_)
          cases e3233
          cases f3233
          cases d3233
          refine zSiinc vr_53_62 rfl rfl (fun x3234 e3234 => ?_)
          cases e3234
          show zL zrx zi _ 53 65 [(3, _), (4, _), (2, _), (0, _), (1, _)] [] _ _ _
          refine zSgo (t := 10) vr_53_65 rfl rfl ?_
          rw [ofNat_succ]
          have e1 := iv_of (p0.symm.trans g3213)
          have e2 := iv_of (a0.symm.trans g3215)
          have e3 : iv h (171 + 3 * k) 3 = iv h A 0 := by
            rw [e1, e2]
            exact Decidable.not_not.mp c3216
          have g53 := g3228
          rw [g3221.2.1, if_neg (by omega), m0] at g53
          refine zL_pm _ _ _ [(3, _), (2, _), (0, _), (1, _), (4, _)] _ _ _ _ _ ⟨(List.forall_mem_cons.mpr ⟨List.mem_cons_self, (List.forall_mem_cons.mpr ⟨(List.mem_cons_of_mem _ (List.mem_cons_of_mem _ (List.mem_cons_of_mem _ (List.mem_cons_of_mem _ List.mem_cons_self)))), (List.forall_mem_cons.mpr ⟨(List.mem_cons_of_mem _ List.mem_cons_self), (List.forall_mem_cons.mpr ⟨(List.mem_cons_of_mem _ (List.mem_cons_of_mem _ List.mem_cons_self)), (List.forall_mem_cons.mpr ⟨(List.mem_cons_of_mem _ (List.mem_cons_of_mem _ (List.mem_cons_of_mem _ List.mem_cons_self))), (fun _ h => absurd h List.not_mem_nil)⟩)⟩)⟩)⟩)⟩), show ([3, 2, 0, 1, 4] : List Nat).Nodup by decide⟩ (C_rel_loop (C := C) hS hA n (k + 1) _ _ _ (by omega) (r.step e3 g3221 g3233 ?_ (fun f hf => by omega) (fun f g hf hg => by omega) (fun f hf => by omega)))
          rw [iv_of g53]
        · obtain ⟨-, z⟩ := q3232
          cases z
theorem C_rel (n : Nat)  (h : List zC) (u : Nat) {A C : Nat} (hS : Stc h) (hA : A < 169) (hC : gF h A 1 = some (.ref C)) : zL zrx zi n 53 0 [(0, .ref 169), (1, .ref A)] [] h u (fun o h2 _ => o = .inl none ∧ rLC (iv h C 0).toNatClampNeg h h2 (iv h A 0) 4) := by
  refine zSaload (m := 1) (k := 1) vr_53_0 rfl rfl rfl ?_
  refine zLget vr_53_1 rfl (fun p3237 w3237 e3237 t3237 g3237 => ?_)
  cases e3237
  first | (rw [hC] at g3237; cases g3237) | skip
  refine zLget vr_53_4 rfl (fun p3238 w3238 e3238 t3238 g3238 => ?_)
  cases e3238
  first | (rw [hC] at g3238; cases g3238) | skip
  refine zSistore (m := 1) (k := 2) vr_53_7 rfl rfl (fun x3239 e3239 => ?_)
  cases e3239
  show zL zrx zi _ 53 8 [(2, _), (0, _), (1, _)] [] _ _ _
  refine zSp0 (pc' := 9) (st' := .int (0) :: _) vr_53_8 rfl rfl ?_
  refine zSistore (m := 1) (k := 3) vr_53_9 rfl rfl (fun x3241 e3241 => ?_)
  cases e3241
  show zL zrx zi _ 53 10 [(3, _), (2, _), (0, _), (1, _)] [] _ _ _
  have e : iv h C 0 = _ := iv_of g3238
  rw [e]
  exact zL_pm _ _ _ [(3, _), (2, _), (0, _), (1, _), (4, _)] _ _ _ _ _ ⟨(List.forall_mem_cons.mpr ⟨List.mem_cons_self, (List.forall_mem_cons.mpr ⟨(List.mem_cons_of_mem _ List.mem_cons_self), (List.forall_mem_cons.mpr ⟨(List.mem_cons_of_mem _ (List.mem_cons_of_mem _ List.mem_cons_self)), (List.forall_mem_cons.mpr ⟨(List.mem_cons_of_mem _ (List.mem_cons_of_mem _ (List.mem_cons_of_mem _ List.mem_cons_self))), (fun _ h => absurd h List.not_mem_nil)⟩)⟩)⟩)⟩), show ([3, 2, 0, 1, 4] : List Nat).Nodup by decide⟩ (C_rel_loop (C := C) hS hA _ 0 .null _ _ (by omega) rLs.refl)
theorem C_vote (n : Nat) (b : Int32) (h : List zC) (u : Nat) {cnt : Int32} (hS : Stc h) (hc : gF h 71 2 = some (.int cnt)) (hc2 : cnt.toInt ≤ 24) (hCl : ∀ k, k < cnt.toNatClampNeg → ∃ C : Nat, gF h (73 + 4 * k) 1 = some (.ref C) ∧ 239 ≤ C) : zL zrx zi n 70 0 [(0, .ref 16), (1, .int b)] [] h u (fun o h2 _ => match o with
  | .inl v => (iN cnt.toInt b ∧ iv h (73 + 4 * b.toNatClampNeg) 2 = 0) ∧ ∃ (y : Int32) (C : Nat) (h1 : List zC), v = some (.int y) ∧ gF h (73 + 4 * b.toNatClampNeg) 1 = some (.ref C) ∧ y = hcF (fun i => bCs (fun f => iv h (173 + 3 * f) i) (fun f => sideC 0 (iv h (171 + 3 * f) 3) (iv h (73 + 4 * b.toNatClampNeg) 0) (lkC h f C)) 4) 3 ∧ ((2 ≤ y ∧ ∃ h0 : List zC, hPut h h0 (73 + 4 * b.toNatClampNeg) 2 (.int 1) ∧ hPut h0 h1 (73 + 4 * b.toNatClampNeg) 3 (.int (iv h 16 0 + 30))) ∨ (¬ 2 ≤ y ∧ hPut h h1 (73 + 4 * b.toNatClampNeg) 2 (.int 3))) ∧ rLC (iv h1 C 0).toNatClampNeg h1 h2 (iv h1 (73 + 4 * b.toNatClampNeg) 0) 4
  | .inr E => hExt h h2 ∧ ((E = 0 ∧ ¬ iN cnt.toInt b) ∨ (E = 2 ∧ iN cnt.toInt b ∧ ¬ iv h (73 + 4 * b.toNatClampNeg) 2 = 0))) := by
  refine zSiload (m := 1) (k := 1) vr_70_0 rfl rfl rfl (fun x3242 e3242 => ?_)
  cases e3242
  refine zSaload (m := 1) (k := 0) vr_70_1 rfl rfl rfl ?_
  refine zLget vr_70_2 rfl (fun p3244 w3244 e3244 t3244 g3244 => ?_)
  cases e3244
  first | (rw [hc] at g3244; cases g3244) | (rw [(st_16_10 hS)] at g3244; cases g3244) | (rw [(st_71_0 hS)] at g3244; cases g3244) | (rw [(st_art hS n24)] at g3244; cases g3244) | (rw [(st_16_11 hS)] at g3244; cases g3244) | (rw [f11] at g3244; cases g3244) | skip
  refine zLget vr_70_5 rfl (fun p3245 w3245 e3245 t3245 g3245 => ?_)
  cases e3245
  first | (rw [hc] at g3245; cases g3245) | (rw [(st_16_10 hS)] at g3245; cases g3245) | (rw [(st_71_0 hS)] at g3245; cases g3245) | (rw [(st_art hS n24)] at g3245; cases g3245) | (rw [(st_16_11 hS)] at g3245; cases g3245) | (rw [f11] at g3245; cases g3245) | skip
  refine zScall vr_70_8 rfl rfl rfl (fun m3246 _ => C_num6 _ _ _ _ (m := cnt.toInt) rfl) (fun v3246 h3246 u3246 q3246 => ?_) (fun E3246 h3246 u3246 q3246 => ?_)
  · obtain ⟨eh3246, rfl, r1⟩ := q3246
    replace eh3246 := eh3246.symm
    subst eh3246
    show zL zrx zi _ 70 11 [(0, _), (1, _)] [] _ _ _
    have n24 := n24i r1 hc2
    obtain ⟨C, hC, lC⟩ := hCl b.toNatClampNeg (by
      obtain ⟨a1, a2⟩ := r1
      show b.toInt.toNat < cnt.toInt.toNat
      omega)
    refine zSaload (m := 1) (k := 0) vr_70_11 rfl rfl rfl ?_
    refine zLget vr_70_12 rfl (fun p3248 w3248 e3248 t3248 g3248 => ?_)
    cases e3248
    first | (rw [hc] at g3248; cases g3248) | (rw [(st_16_10 hS)] at g3248; cases g3248) | (rw [(st_71_0 hS)] at g3248; cases g3248) | (rw [(st_art hS n24)] at g3248; cases g3248) | (rw [(st_16_11 hS)] at g3248; cases g3248) | (rw [f11] at g3248; cases g3248) | skip
    refine zLget vr_70_15 rfl (fun p3249 w3249 e3249 t3249 g3249 => ?_)
    cases e3249
    first | (rw [hc] at g3249; cases g3249) | (rw [(st_16_10 hS)] at g3249; cases g3249) | (rw [(st_71_0 hS)] at g3249; cases g3249) | (rw [(st_art hS n24)] at g3249; cases g3249) | (rw [(st_16_11 hS)] at g3249; cases g3249) | (rw [f11] at g3249; cases g3249) | skip
    refine zSiload (m := 1) (k := 1) vr_70_18 rfl rfl rfl (fun x3250 e3250 => ?_)
    cases e3250
    refine zLaald vr_70_19 rfl (fun p3251 x3251 w3251 e3251 f3251 c3251 t3251 g3251 => ?_)
    cases e3251
    cases f3251
    first | (rw [hc] at g3251; cases g3251) | (rw [(st_16_10 hS)] at g3251; cases g3251) | (rw [(st_71_0 hS)] at g3251; cases g3251) | (rw [(st_art hS n24)] at g3251; cases g3251) | (rw [(st_16_11 hS)] at g3251; cases g3251) | (rw [f11] at g3251; cases g3251) | skip
    refine zSastore (m := 1) (k := 2) vr_70_20 rfl rfl ?_
    show zL zrx zi _ 70 21 [(2, _), (0, _), (1, _)] [] _ _ _
    refine zSaload (m := 1) (k := 2) vr_70_21 rfl rfl rfl ?_
    refine zLget vr_70_22 rfl (fun p3254 w3254 e3254 t3254 g3254 => ?_)
    cases e3254
    first | (rw [hc] at g3254; cases g3254) | (rw [(st_16_10 hS)] at g3254; cases g3254) | (rw [(st_71_0 hS)] at g3254; cases g3254) | (rw [(st_art hS n24)] at g3254; cases g3254) | (rw [(st_16_11 hS)] at g3254; cases g3254) | (rw [f11] at g3254; cases g3254) | skip
    refine zSb1 (f := fun x => decide (¬ x = 0)) (off := 7) (t := 32) vr_70_25 rfl rfl rfl (fun x3255 e3255 q3255 => ?_) (fun x3255 e3255 q3255 => ?_)
    · cases e3255
      have c3255 := of_decide_eq_true q3255
      refine zSp0 (pc' := 33) (st' := .int (0) :: _) vr_70_32 rfl rfl ?_
      refine zScall vr_70_33 rfl rfl rfl (fun m _ => C_needState _ _ _ _) (fun v h u q => absurd rfl q.2.2) (fun E h3 u q => ?_)
      obtain ⟨rfl, -, q2⟩ := q
      rw [zCat_no vh_70_33_2]
      exact ⟨q2, Or.inr ⟨rfl, r1, fun z => c3255 ((iv_of g3254).symm.trans z)⟩⟩
    · cases e3255
      have c3255 := ndc q3255
      refine zSp0 (pc' := 29) (st' := .int (1) :: _) vr_70_28 rfl rfl ?_
      refine zSgo (t := 33) vr_70_29 rfl rfl ?_
      refine zScall vr_70_33 rfl rfl rfl (fun m3258 _ => C_needState _ _ _ _) (fun v3258 h3258 u3258 q3258 => ?_) (fun E3258 h3258 u3258 q3258 => ?_)
      · obtain ⟨eh3258, rfl, -⟩ := q3258
        replace eh3258 := eh3258.symm
        subst eh3258
        show zL zrx zi _ 70 36 [(2, _), (0, _), (1, _)] [] _ _ _
        refine zSaload (m := 1) (k := 0) vr_70_36 rfl rfl rfl ?_
        refine zLget vr_70_37 rfl (fun p3260 w3260 e3260 t3260 g3260 => ?_)
        cases e3260
        first | (rw [hc] at g3260; cases g3260) | (rw [(st_16_10 hS)] at g3260; cases g3260) | (rw [(st_71_0 hS)] at g3260; cases g3260) | (rw [(st_art hS n24)] at g3260; cases g3260) | (rw [(st_16_11 hS)] at g3260; cases g3260) | (rw [f11] at g3260; cases g3260) | skip
        refine zSaload (m := 1) (k := 2) vr_70_40 rfl rfl rfl ?_
        refine zSp0 (pc' := 42) (st' := .int (0) :: _) vr_70_41 rfl rfl ?_
        refine zScall vr_70_42 rfl rfl rfl (fun m3263 _ => C_inF _ _ _ _ hS hC) (fun v3263 h3263 u3263 q3263 => ?_) (fun E3263 h3263 u3263 q3263 => ?_)
        · obtain ⟨eh3263, z3263⟩ := q3263
          replace eh3263 := eh3263.symm
          subst eh3263
          cases z3263
          show zL zrx zi _ 70 45 [(2, _), (0, _), (1, _)] [_] _ _ _
          refine zSistore (m := 1) (k := 3) vr_70_45 rfl rfl (fun x3264 e3264 => ?_)
          cases e3264
          show zL zrx zi _ 70 46 [(3, _), (2, _), (0, _), (1, _)] [] _ _ _
          refine zSiload (m := 1) (k := 3) vr_70_46 rfl rfl rfl (fun x3265 e3265 => ?_)
          cases e3265
          refine zSp0 (pc' := 48) (st' := .int (2) :: _) vr_70_47 rfl rfl ?_
          refine zSb2 (f := fun x y => decide (x < y)) (off := 22) (t := 70) vr_70_48 rfl rfl rfl (fun x3267 y3267 e3267 f3267 q3267 => ?_) (fun x3267 y3267 e3267 f3267 q3267 => ?_)
          · cases e3267
            cases f3267
            have c3267 := of_decide_eq_true q3267
            refine zSaload (m := 1) (k := 2) vr_70_70 rfl rfl rfl ?_
            refine zSp0 (pc' := 72) (st' := .int (3) :: _) vr_70_71 rfl rfl ?_
            refine zLput vr_70_72 rfl (fun p3270 k3270 e3270 t3270 g3270 => ?_)
            cases e3270
            first
              | (have hS3 := (hS.put g3228 (art_st2 n24)).put g3179 (art_st2 n24)
                 have hC3 := (g3179.2.1 (73 + 4 * b.toNatClampNeg) 1).trans ((if_neg (by omega)).trans ((g3228.2.1 (73 + 4 * b.toNatClampNeg) 1).trans ((if_neg (by omega)).trans hC)))
                 have f11 := st_16_11 hS3)
              | (have hS3 := hS.put g3270 (art_st2 n24)
                 have hC3 := (g3270.2.1 (73 + 4 * b.toNatClampNeg) 1).trans ((if_neg (by omega)).trans hC)
                 have f11 := st_16_11 hS3)
            refine zSaload (m := 1) (k := 0) vr_70_75 rfl rfl rfl ?_
            refine zLget vr_70_76 rfl (fun p3272 w3272 e3272 t3272 g3272 => ?_)
            cases e3272
            first | (rw [hc] at g3272; cases g3272) | (rw [(st_16_10 hS)] at g3272; cases g3272) | (rw [(st_71_0 hS)] at g3272; cases g3272) | (rw [(st_art hS n24)] at g3272; cases g3272) | (rw [(st_16_11 hS)] at g3272; cases g3272) | (rw [f11] at g3272; cases g3272) | skip
            refine zSaload (m := 1) (k := 2) vr_70_79 rfl rfl rfl ?_
            refine zScall vr_70_80 rfl rfl rfl (fun m3274 _ => C_rel _ _ _ hS3 (by omega) hC3) (fun v3274 h3274 u3274 q3274 => ?_) (fun E3274 h3274 u3274 q3274 => ?_)
            · obtain ⟨z3274, rl3274⟩ := q3274
              cases z3274
              show zL zrx zi _ 70 83 [(3, _), (2, _), (0, _), (1, _)] [] _ _ _
              refine zSiload (m := 1) (k := 3) vr_70_83 rfl rfl rfl (fun x3275 e3275 => ?_)
              cases e3275
              refine zLiret vr_70_84 rfl (fun x3276 e3276 => ?_)
              cases e3276
              first
                | exact ⟨⟨r1, (iv_of g3254).trans (Decidable.not_not.mp c3255)⟩, _, C, _, rfl, hC, rfl, Or.inl ⟨Int32.not_lt.mp c3267, _, g3228, by rw [dd]; exact g3179⟩, rl3274⟩
                | exact ⟨⟨r1, (iv_of g3254).trans (Decidable.not_not.mp c3255)⟩, _, C, _, rfl, hC, rfl, Or.inr ⟨Int32.not_le.mpr c3267, g3270⟩, rl3274⟩
            · obtain ⟨z, -⟩ := q3274
              cases z
          · cases e3267
            cases f3267
            have c3267 := ndc q3267
            refine zSaload (m := 1) (k := 2) vr_70_51 rfl rfl rfl ?_
            refine zSp0 (pc' := 53) (st' := .int (1) :: _) vr_70_52 rfl rfl ?_
            refine zLput vr_70_53 rfl (fun p3279 k3279 e3279 t3279 g3279 => ?_)
            cases e3279
            refine zSaload (m := 1) (k := 2) vr_70_56 rfl rfl rfl ?_
            refine zSaload (m := 1) (k := 0) vr_70_57 rfl rfl rfl ?_
            refine zLget vr_70_58 rfl (fun p3282 w3282 e3282 t3282 g3282 => ?_)
            cases e3282
            first | (rw [hc] at g3282; cases g3282) | (rw [(st_16_10 hS)] at g3282; cases g3282) | (rw [(st_71_0 hS)] at g3282; cases g3282) | (rw [(st_art hS n24)] at g3282; cases g3282) | (rw [(st_16_11 hS)] at g3282; cases g3282) | (rw [f11] at g3282; cases g3282) | skip
            refine zSp0 (pc' := 63) (st' := .int (30) :: _) vr_70_61 rfl rfl ?_
            refine zS2 (f := fun x y => .int (x + y)) vr_70_63 rfl rfl (fun x3284 y3284 e3284 f3284 => ?_)
            cases e3284
            cases f3284
            have dd : iv h 16 0 = _ := (iv_eq ((g3279.2.1 16 0).trans (if_neg (by omega)))).symm.trans (iv_of g3282)
            refine zLput vr_70_64 rfl (fun p3285 k3285 e3285 t3285 g3285 => ?_)
            cases e3285
            refine zSgo (t := 75) vr_70_67 rfl rfl ?_
            first
              | (have hS3 := (hS.put g3279 (art_st2 n24)).put g3285 (art_st2 n24)
                 have hC3 := (g3285.2.1 (73 + 4 * b.toNatClampNeg) 1).trans ((if_neg (by omega)).trans ((g3279.2.1 (73 + 4 * b.toNatClampNeg) 1).trans ((if_neg (by omega)).trans hC)))
                 have f11 := st_16_11 hS3)
              | (have hS3 := hS.put g3270 (art_st2 n24)
                 have hC3 := (g3270.2.1 (73 + 4 * b.toNatClampNeg) 1).trans ((if_neg (by omega)).trans hC)
                 have f11 := st_16_11 hS3)
            refine zSaload (m := 1) (k := 0) vr_70_75 rfl rfl rfl ?_
            refine zLget vr_70_76 rfl (fun p3288 w3288 e3288 t3288 g3288 => ?_)
            cases e3288
            first | (rw [hc] at g3288; cases g3288) | (rw [(st_16_10 hS)] at g3288; cases g3288) | (rw [(st_71_0 hS)] at g3288; cases g3288) | (rw [(st_art hS n24)] at g3288; cases g3288) | (rw [(st_16_11 hS)] at g3288; cases g3288) | (rw [f11] at g3288; cases g3288) | skip
            refine zSaload (m := 1) (k := 2) vr_70_79 rfl rfl rfl ?_
            refine zScall vr_70_80 rfl rfl rfl (fun m3290 _ => C_rel _ _ _ hS3 (by omega) hC3) (fun v3290 h3290 u3290 q3290 => ?_) (fun E3290 h3290 u3290 q3290 => ?_)
            · obtain ⟨z3290, rl3290⟩ := q3290
              cases z3290
              show zL zrx zi _ 70 83 [(3, _), (2, _), (0, _), (1, _)] [] _ _ _
              refine zSiload (m := 1) (k := 3) vr_70_83 rfl rfl rfl (fun x3291 e3291 => ?_)
              cases e3291
              refine zLiret vr_70_84 rfl (fun x3292 e3292 => ?_)
              cases e3292
              first
                | exact ⟨⟨r1, (iv_of g3254).trans (Decidable.not_not.mp c3255)⟩, _, C, _, rfl, hC, rfl, Or.inl ⟨Int32.not_lt.mp c3267, _, g3279, by rw [dd]; exact g3285⟩, rl3290⟩
                | exact ⟨⟨r1, (iv_of g3254).trans (Decidable.not_not.mp c3255)⟩, _, C, _, rfl, hC, rfl, Or.inr ⟨Int32.not_le.mpr c3267, g3270⟩, rl3290⟩
            · obtain ⟨z, -⟩ := q3290
              cases z
        · obtain ⟨-, z⟩ := q3263
          cases z
      · obtain ⟨-, z, -⟩ := q3258
        exact absurd z (by decide)
  · obtain ⟨rfl, q1, q2⟩ := q3246
    rw [zCat_no vh_70_8_0]
    exact ⟨q2, Or.inl ⟨rfl, q1⟩⟩
abbrev Q_Lvote (cnt : Int32) (b : Int32) (h : List zC) : zK := fun o h2 _ => ∃ k : Int32, o = .inl (some (.int k)) ∧
  ((k = 0 ∧ ((iN cnt.toInt b) ∧ iv h (73 + 4 * b.toNatClampNeg) 2 = 0) ∧ ∃ (y : Int32) (C : Nat) (h1 h3 : List zC), gF h (73 + 4 * b.toNatClampNeg) 1 = some (.ref C) ∧ y = hcF (fun i => bCs (fun f => iv h (173 + 3 * f) i) (fun f => sideC 0 (iv h (171 + 3 * f) 3) (iv h (73 + 4 * b.toNatClampNeg) 0) (lkC h f C)) 4) 3 ∧ ((2 ≤ y ∧ ∃ h0 : List zC, hPut h h0 (73 + 4 * b.toNatClampNeg) 2 (.int 1) ∧ hPut h0 h1 (73 + 4 * b.toNatClampNeg) 3 (.int (iv h 16 0 + 30))) ∨ (¬ 2 ≤ y ∧ hPut h h1 (73 + 4 * b.toNatClampNeg) 2 (.int 3))) ∧ rLC (iv h1 C 0).toNatClampNeg h1 h3 (iv h1 (73 + 4 * b.toNatClampNeg) 0) 4 ∧ hPut h3 h2 238 0 (.long y.toInt64)) ∨ (k = 1 ∧ ¬ (iN cnt.toInt b) ∧ hExt h h2) ∨ (k = 2 ∧ (iN cnt.toInt b) ∧ ¬ (iv h (73 + 4 * b.toNatClampNeg) 2 = 0) ∧ hExt h h2))
theorem C_Lvote (n : Nat) (b : Int32) (h : List zC) (u : Nat) {cnt : Int32} (hS : Stc h) (hc : gF h 71 2 = some (.int cnt)) (hc2 : cnt.toInt ≤ 24) (hCl : ∀ k, k < cnt.toNatClampNeg → ∃ C : Nat, gF h (73 + 4 * k) 1 = some (.ref C) ∧ 239 ≤ C) : zL zrx zi n 221 0 [(0, .ref 16), (1, .int b), (2, .ref 238)] [] h u (Q_Lvote cnt b h) := by
  refine zSaload (m := 1) (k := 2) vr_221_0 rfl rfl rfl ?_
  refine zSaload (m := 1) (k := 0) vr_221_1 rfl rfl rfl ?_
  refine zSiload (m := 1) (k := 1) vr_221_2 rfl rfl rfl (fun x3295 e3295 => ?_)
  cases e3295
  refine zScall vr_221_3 rfl rfl rfl (fun m3296 _ => C_vote _ _ _ _ hS hc hc2 hCl) (fun v3296 h3296 u3296 q3296 => ?_) (fun E3296 h3296 u3296 q3296 => ?_)
  · obtain ⟨k1, y3296, C3296, i3296, rfl, k2, k3, k4, k5⟩ := q3296
    show zL zrx zi _ 221 6 [(0, _), (1, _), (2, _)] [_, _] _ _ _
    refine zS1 (f := fun x => .long x.toInt64) vr_221_6 rfl rfl (fun x3297 e3297 => ?_)
    cases e3297
    refine zLput vr_221_7 rfl (fun p3298 k3298 e3298 t3298 g3298 => ?_)
    cases e3298
    have gP := g3298
    refine zSgo (t := 19) vr_221_10 rfl rfl ?_
    refine zSp0 (pc' := 20) (st' := .int (0) :: _) vr_221_19 rfl rfl ?_
    refine zLiret vr_221_20 rfl (fun x3301 e3301 => ?_)
    cases e3301
    exact ⟨_, rfl, Or.inl ⟨rfl, k1, _, _, _, _, k2, k3, k4, k5, gP⟩⟩
  · obtain ⟨q1, ⟨rfl, z⟩ | ⟨rfl, z⟩⟩ := q3296
    · rw [zCat_hit (k := 3) (m := 1) vh_221_3_0 vr_221_13 rfl (by decide)]
      show zL zrx zi _ 221 14 [(0, _), (1, _), (2, _)] [] _ _ _
      refine zSp0 (pc' := 15) (st' := .int (1) :: _) vr_221_14 rfl rfl ?_
      refine zLiret vr_221_15 rfl (fun x3303 e3303 => ?_)
      cases e3303
      exact ⟨_, rfl, Or.inr (Or.inl ⟨rfl, z, q1⟩)⟩
    · rw [zCat_hit (k := 3) (m := 1) vh_221_3_2 vr_221_16 rfl (by decide)]
      show zL zrx zi _ 221 17 [(0, _), (1, _), (2, _)] [] _ _ _
      refine zSp0 (pc' := 18) (st' := .int (2) :: _) vr_221_17 rfl rfl ?_
      refine zLiret vr_221_18 rfl (fun x3305 e3305 => ?_)
      cases e3305
      exact ⟨_, rfl, Or.inr (Or.inr ⟨rfl, z.1, z.2, q1⟩)⟩
theorem C_repeal (n : Nat) (b : Int32) (h : List zC) (u : Nat) {cnt : Int32} (hS : Stc h) (hc : gF h 71 2 = some (.int cnt)) (hc2 : cnt.toInt ≤ 24) (hCl : ∀ k, k < cnt.toNatClampNeg → ∃ C : Nat, gF h (73 + 4 * k) 1 = some (.ref C) ∧ 239 ≤ C) : zL zrx zi n 71 0 [(0, .ref 16), (1, .int b)] [] h u (fun o h1 _ => match o with
  | .inl v => (iN cnt.toInt b ∧ iv h (73 + 4 * b.toNatClampNeg) 2 = 1) ∧ ∃ (y : Int32) (C : Nat), v = some (.int y) ∧ gF h (73 + 4 * b.toNatClampNeg) 1 = some (.ref C) ∧ y = hcF (fun i => bCs (fun f => iv h (173 + 3 * f) i) (fun f => sideC 1 (iv h (171 + 3 * f) 3) (iv h (73 + 4 * b.toNatClampNeg) 0) (lkC h f C)) 4) 3 ∧ ((2 ≤ y ∧ ∃ h0 : List zC, hPut h h0 (73 + 4 * b.toNatClampNeg) 2 (.int 2) ∧ hPut h0 h1 (73 + 4 * b.toNatClampNeg) 4 (.int (iv h 16 0 + 30))) ∨ (¬ 2 ≤ y ∧ h1 = h))
  | .inr E => hExt h h1 ∧ ((E = 0 ∧ ¬ iN cnt.toInt b) ∨ (E = 2 ∧ iN cnt.toInt b ∧ ¬ iv h (73 + 4 * b.toNatClampNeg) 2 = 1))) := by
  refine zSiload (m := 1) (k := 1) vr_71_0 rfl rfl rfl (fun x3306 e3306 => ?_)
  cases e3306
  refine zSaload (m := 1) (k := 0) vr_71_1 rfl rfl rfl ?_
  refine zLget vr_71_2 rfl (fun p3308 w3308 e3308 t3308 g3308 => ?_)
  cases e3308
  first | (rw [hc] at g3308; cases g3308) | (rw [(st_16_10 hS)] at g3308; cases g3308) | (rw [(st_71_0 hS)] at g3308; cases g3308) | (rw [(st_art hS n24)] at g3308; cases g3308) | (rw [(st_16_11 hS)] at g3308; cases g3308) | skip
  refine zLget vr_71_5 rfl (fun p3309 w3309 e3309 t3309 g3309 => ?_)
  cases e3309
  first | (rw [hc] at g3309; cases g3309) | (rw [(st_16_10 hS)] at g3309; cases g3309) | (rw [(st_71_0 hS)] at g3309; cases g3309) | (rw [(st_art hS n24)] at g3309; cases g3309) | (rw [(st_16_11 hS)] at g3309; cases g3309) | skip
  refine zScall vr_71_8 rfl rfl rfl (fun m3310 _ => C_num6 _ _ _ _ (m := cnt.toInt) rfl) (fun v3310 h3310 u3310 q3310 => ?_) (fun E3310 h3310 u3310 q3310 => ?_)
  · obtain ⟨eh3310, rfl, r1⟩ := q3310
    replace eh3310 := eh3310.symm
    subst eh3310
    show zL zrx zi _ 71 11 [(0, _), (1, _)] [] _ _ _
    have n24 := n24i r1 hc2
    obtain ⟨C, hC, lC⟩ := hCl b.toNatClampNeg (by
      obtain ⟨a1, a2⟩ := r1
      show b.toInt.toNat < cnt.toInt.toNat
      omega)
    refine zSaload (m := 1) (k := 0) vr_71_11 rfl rfl rfl ?_
    refine zLget vr_71_12 rfl (fun p3312 w3312 e3312 t3312 g3312 => ?_)
    cases e3312
    first | (rw [hc] at g3312; cases g3312) | (rw [(st_16_10 hS)] at g3312; cases g3312) | (rw [(st_71_0 hS)] at g3312; cases g3312) | (rw [(st_art hS n24)] at g3312; cases g3312) | (rw [(st_16_11 hS)] at g3312; cases g3312) | skip
    refine zLget vr_71_15 rfl (fun p3313 w3313 e3313 t3313 g3313 => ?_)
    cases e3313
    first | (rw [hc] at g3313; cases g3313) | (rw [(st_16_10 hS)] at g3313; cases g3313) | (rw [(st_71_0 hS)] at g3313; cases g3313) | (rw [(st_art hS n24)] at g3313; cases g3313) | (rw [(st_16_11 hS)] at g3313; cases g3313) | skip
    refine zSiload (m := 1) (k := 1) vr_71_18 rfl rfl rfl (fun x3314 e3314 => ?_)
    cases e3314
    refine zLaald vr_71_19 rfl (fun p3315 x3315 w3315 e3315 f3315 c3315 t3315 g3315 => ?_)
    cases e3315
    cases f3315
    first | (rw [hc] at g3315; cases g3315) | (rw [(st_16_10 hS)] at g3315; cases g3315) | (rw [(st_71_0 hS)] at g3315; cases g3315) | (rw [(st_art hS n24)] at g3315; cases g3315) | (rw [(st_16_11 hS)] at g3315; cases g3315) | skip
    refine zSastore (m := 1) (k := 2) vr_71_20 rfl rfl ?_
    show zL zrx zi _ 71 21 [(2, _), (0, _), (1, _)] [] _ _ _
    refine zSaload (m := 1) (k := 2) vr_71_21 rfl rfl rfl ?_
    refine zLget vr_71_22 rfl (fun p3318 w3318 e3318 t3318 g3318 => ?_)
    cases e3318
    first | (rw [hc] at g3318; cases g3318) | (rw [(st_16_10 hS)] at g3318; cases g3318) | (rw [(st_71_0 hS)] at g3318; cases g3318) | (rw [(st_art hS n24)] at g3318; cases g3318) | (rw [(st_16_11 hS)] at g3318; cases g3318) | skip
    refine zSp0 (pc' := 26) (st' := .int (1) :: _) vr_71_25 rfl rfl ?_
    refine zSb2 (f := fun x y => decide (¬ x = y)) (off := 7) (t := 33) vr_71_26 rfl rfl rfl (fun x3320 y3320 e3320 f3320 q3320 => ?_) (fun x3320 y3320 e3320 f3320 q3320 => ?_)
    · cases e3320
      cases f3320
      have c3320 := of_decide_eq_true q3320
      refine zSp0 (pc' := 34) (st' := .int (0) :: _) vr_71_33 rfl rfl ?_
      refine zScall vr_71_34 rfl rfl rfl (fun m _ => C_needState _ _ _ _) (fun v h u q => absurd rfl q.2.2) (fun E h3 u q => ?_)
      obtain ⟨rfl, -, q2⟩ := q
      rw [zCat_no vh_71_34_2]
      exact ⟨q2, Or.inr ⟨rfl, r1, fun z => c3320 ((iv_of g3318).symm.trans z)⟩⟩
    · cases e3320
      cases f3320
      have c3320 := ndc q3320
      refine zSp0 (pc' := 30) (st' := .int (1) :: _) vr_71_29 rfl rfl ?_
      refine zSgo (t := 34) vr_71_30 rfl rfl ?_
      refine zScall vr_71_34 rfl rfl rfl (fun m3323 _ => C_needState _ _ _ _) (fun v3323 h3323 u3323 q3323 => ?_) (fun E3323 h3323 u3323 q3323 => ?_)
      · obtain ⟨eh3323, rfl, -⟩ := q3323
        replace eh3323 := eh3323.symm
        subst eh3323
        show zL zrx zi _ 71 37 [(2, _), (0, _), (1, _)] [] _ _ _
        refine zSaload (m := 1) (k := 0) vr_71_37 rfl rfl rfl ?_
        refine zLget vr_71_38 rfl (fun p3325 w3325 e3325 t3325 g3325 => ?_)
        cases e3325
        first | (rw [hc] at g3325; cases g3325) | (rw [(st_16_10 hS)] at g3325; cases g3325) | (rw [(st_71_0 hS)] at g3325; cases g3325) | (rw [(st_art hS n24)] at g3325; cases g3325) | (rw [(st_16_11 hS)] at g3325; cases g3325) | skip
        refine zSaload (m := 1) (k := 2) vr_71_41 rfl rfl rfl ?_
        refine zSp0 (pc' := 43) (st' := .int (1) :: _) vr_71_42 rfl rfl ?_
        refine zScall vr_71_43 rfl rfl rfl (fun m3328 _ => C_inF _ _ _ _ hS hC) (fun v3328 h3328 u3328 q3328 => ?_) (fun E3328 h3328 u3328 q3328 => ?_)
        · obtain ⟨eh3328, z3328⟩ := q3328
          replace eh3328 := eh3328.symm
          subst eh3328
          cases z3328
          show zL zrx zi _ 71 46 [(2, _), (0, _), (1, _)] [_] _ _ _
          refine zSistore (m := 1) (k := 3) vr_71_46 rfl rfl (fun x3329 e3329 => ?_)
          cases e3329
          show zL zrx zi _ 71 47 [(3, _), (2, _), (0, _), (1, _)] [] _ _ _
          refine zSiload (m := 1) (k := 3) vr_71_47 rfl rfl rfl (fun x3330 e3330 => ?_)
          cases e3330
          refine zSp0 (pc' := 49) (st' := .int (2) :: _) vr_71_48 rfl rfl ?_
          refine zSb2 (f := fun x y => decide (x < y)) (off := 19) (t := 68) vr_71_49 rfl rfl rfl (fun x3332 y3332 e3332 f3332 q3332 => ?_) (fun x3332 y3332 e3332 f3332 q3332 => ?_)
          · cases e3332
            cases f3332
            have c3332 := of_decide_eq_true q3332
            refine zSiload (m := 1) (k := 3) vr_71_68 rfl rfl rfl (fun x3333 e3333 => ?_)
            cases e3333
            refine zLiret vr_71_69 rfl (fun x3334 e3334 => ?_)
            cases e3334
            first
              | exact ⟨⟨r1, (iv_of g3318).trans (Decidable.not_not.mp c3320)⟩, _, C, rfl, hC, rfl, Or.inl ⟨Int32.not_lt.mp c3332, _, g3229, by rw [dd]; exact g3235⟩⟩
              | exact ⟨⟨r1, (iv_of g3318).trans (Decidable.not_not.mp c3320)⟩, _, C, rfl, hC, rfl, Or.inr ⟨Int32.not_le.mpr c3332, rfl⟩⟩
          · cases e3332
            cases f3332
            have c3332 := ndc q3332
            refine zSaload (m := 1) (k := 2) vr_71_52 rfl rfl rfl ?_
            refine zSp0 (pc' := 54) (st' := .int (2) :: _) vr_71_53 rfl rfl ?_
            refine zLput vr_71_54 rfl (fun p3337 k3337 e3337 t3337 g3337 => ?_)
            cases e3337
            refine zSaload (m := 1) (k := 2) vr_71_57 rfl rfl rfl ?_
            refine zSaload (m := 1) (k := 0) vr_71_58 rfl rfl rfl ?_
            refine zLget vr_71_59 rfl (fun p3340 w3340 e3340 t3340 g3340 => ?_)
            cases e3340
            first | (rw [hc] at g3340; cases g3340) | (rw [(st_16_10 hS)] at g3340; cases g3340) | (rw [(st_71_0 hS)] at g3340; cases g3340) | (rw [(st_art hS n24)] at g3340; cases g3340) | (rw [(st_16_11 hS)] at g3340; cases g3340) | skip
            refine zSp0 (pc' := 64) (st' := .int (30) :: _) vr_71_62 rfl rfl ?_
            refine zS2 (f := fun x y => .int (x + y)) vr_71_64 rfl rfl (fun x3342 y3342 e3342 f3342 => ?_)
            cases e3342
            cases f3342
            have dd : iv h 16 0 = _ := (iv_eq ((g3337.2.1 16 0).trans (if_neg (by omega)))).symm.trans (iv_of g3340)
            refine zLput vr_71_65 rfl (fun p3343 k3343 e3343 t3343 g3343 => ?_)
            cases e3343
            refine zSiload (m := 1) (k := 3) vr_71_68 rfl rfl rfl (fun x3344 e3344 => ?_)
            cases e3344
            refine zLiret vr_71_69 rfl (fun x3345 e3345 => ?_)
            cases e3345
            first
              | exact ⟨⟨r1, (iv_of g3318).trans (Decidable.not_not.mp c3320)⟩, _, C, rfl, hC, rfl, Or.inl ⟨Int32.not_lt.mp c3332, _, g3337, by rw [dd]; exact g3343⟩⟩
              | exact ⟨⟨r1, (iv_of g3318).trans (Decidable.not_not.mp c3320)⟩, _, C, rfl, hC, rfl, Or.inr ⟨Int32.not_le.mpr c3332, rfl⟩⟩
        · obtain ⟨-, z⟩ := q3328
          cases z
      · obtain ⟨-, z, -⟩ := q3323
        exact absurd z (by decide)
  · obtain ⟨rfl, q1, q2⟩ := q3310
    rw [zCat_no vh_71_8_0]
    exact ⟨q2, Or.inl ⟨rfl, q1⟩⟩
abbrev Q_Lrepeal (cnt : Int32) (b : Int32) (h : List zC) : zK := fun o h2 _ => ∃ k : Int32, o = .inl (some (.int k)) ∧
  ((k = 0 ∧ ((iN cnt.toInt b) ∧ iv h (73 + 4 * b.toNatClampNeg) 2 = 1) ∧ ∃ (y : Int32) (C : Nat) (h1 : List zC), gF h (73 + 4 * b.toNatClampNeg) 1 = some (.ref C) ∧ y = hcF (fun i => bCs (fun f => iv h (173 + 3 * f) i) (fun f => sideC 1 (iv h (171 + 3 * f) 3) (iv h (73 + 4 * b.toNatClampNeg) 0) (lkC h f C)) 4) 3 ∧ ((2 ≤ y ∧ ∃ h0 : List zC, hPut h h0 (73 + 4 * b.toNatClampNeg) 2 (.int 2) ∧ hPut h0 h1 (73 + 4 * b.toNatClampNeg) 4 (.int (iv h 16 0 + 30))) ∨ (¬ 2 ≤ y ∧ h1 = h)) ∧ hPut h1 h2 238 0 (.long y.toInt64)) ∨ (k = 1 ∧ ¬ (iN cnt.toInt b) ∧ hExt h h2) ∨ (k = 2 ∧ (iN cnt.toInt b) ∧ ¬ (iv h (73 + 4 * b.toNatClampNeg) 2 = 1) ∧ hExt h h2))
theorem C_Lrepeal (n : Nat) (b : Int32) (h : List zC) (u : Nat) {cnt : Int32} (hS : Stc h) (hc : gF h 71 2 = some (.int cnt)) (hc2 : cnt.toInt ≤ 24) (hCl : ∀ k, k < cnt.toNatClampNeg → ∃ C : Nat, gF h (73 + 4 * k) 1 = some (.ref C) ∧ 239 ≤ C) : zL zrx zi n 222 0 [(0, .ref 16), (1, .int b), (2, .ref 238)] [] h u (Q_Lrepeal cnt b h) := by
  refine zSaload (m := 1) (k := 2) vr_222_0 rfl rfl rfl ?_
  refine zSaload (m := 1) (k := 0) vr_222_1 rfl rfl rfl ?_
  refine zSiload (m := 1) (k := 1) vr_222_2 rfl rfl rfl (fun x3348 e3348 => ?_)
  cases e3348
  refine zScall vr_222_3 rfl rfl rfl (fun m3349 _ => C_repeal _ _ _ _ hS hc hc2 hCl) (fun v3349 h3349 u3349 q3349 => ?_) (fun E3349 h3349 u3349 q3349 => ?_)
  · obtain ⟨k1, y3349, C3349, rfl, k2, k3, k4⟩ := q3349
    show zL zrx zi _ 222 6 [(0, _), (1, _), (2, _)] [_, _] _ _ _
    refine zS1 (f := fun x => .long x.toInt64) vr_222_6 rfl rfl (fun x3350 e3350 => ?_)
    cases e3350
    refine zLput vr_222_7 rfl (fun p3351 k3351 e3351 t3351 g3351 => ?_)
    cases e3351
    have gP := g3351
    refine zSgo (t := 19) vr_222_10 rfl rfl ?_
    refine zSp0 (pc' := 20) (st' := .int (0) :: _) vr_222_19 rfl rfl ?_
    refine zLiret vr_222_20 rfl (fun x3354 e3354 => ?_)
    cases e3354
    exact ⟨_, rfl, Or.inl ⟨rfl, k1, _, _, _, k2, k3, k4, gP⟩⟩
  · obtain ⟨q1, ⟨rfl, z⟩ | ⟨rfl, z⟩⟩ := q3349
    · rw [zCat_hit (k := 3) (m := 1) vh_222_3_0 vr_222_13 rfl (by decide)]
      show zL zrx zi _ 222 14 [(0, _), (1, _), (2, _)] [] _ _ _
      refine zSp0 (pc' := 15) (st' := .int (1) :: _) vr_222_14 rfl rfl ?_
      refine zLiret vr_222_15 rfl (fun x3356 e3356 => ?_)
      cases e3356
      exact ⟨_, rfl, Or.inr (Or.inl ⟨rfl, z, q1⟩)⟩
    · rw [zCat_hit (k := 3) (m := 1) vh_222_3_2 vr_222_16 rfl (by decide)]
      show zL zrx zi _ 222 17 [(0, _), (1, _), (2, _)] [] _ _ _
      refine zSp0 (pc' := 18) (st' := .int (2) :: _) vr_222_17 rfl rfl ?_
      refine zLiret vr_222_18 rfl (fun x3358 e3358 => ?_)
      cases e3358
      exact ⟨_, rfl, Or.inr (Or.inr ⟨rfl, z.1, z.2, q1⟩)⟩
set_option maxRecDepth 20000 in
theorem C_mpl_loop {h : List zC} {f b : Int32} : ∀ (n k : Nat) (r : Int32) (w : Value) (u : Nat), k ≤ 4 → pcF (fun f => iv h 236 f) b k = r → zL zrx zi n 166 75 [(6, .int (Int32.ofNat k)), (3, .int r), (5, .int (Int32.ofNat 4)), (4, .ref 236), (0, .ref 213), (1, .int f), (2, .int b), (7, w)] [] h u (fun o h2 _ => h2 = h ∧ o = .inl (some (.int (pcF (fun f => iv h 236 f) b 4))))
  | 0, _, _, _, _ => fun _ _ => trivial
  | n + 1, k, r, w, u => fun hk hD => by
    have kk := (toNat_ofNat (m := k) (by omega))
    have z4 : (Int32.ofNat 4).toInt = 4 := rfl
    refine zLp vr_166_75 rfl rfl ?_
    refine zSiload (m := 2) (k := 5) vr_166_77 rfl rfl rfl (fun x3380 e3380 => ?_)
    cases e3380
    refine zSb2 (f := fun x y => decide (y ≤ x)) (off := 30) (t := 109) vr_166_79 rfl rfl rfl (fun x3381 y3381 e3381 f3381 q3381 => ?_) (fun x3381 y3381 e3381 f3381 q3381 => ?_)
    · cases e3381
      cases f3381
      have c3381 := of_decide_eq_true q3381
      refine zSiload (m := 1) (k := 3) vr_166_109 rfl rfl rfl (fun x3382 e3382 => ?_)
      cases e3382
      refine zLiret vr_166_110 rfl (fun x3383 e3383 => ?_)
      cases e3383
      have e : k = 4 := by
        have y := c3381
        rw [i32_le, kk.2, z4] at y
        omega
      subst e
      rw [hD]
      exact ⟨rfl, rfl⟩
    · cases e3381
      cases f3381
      have c3381 := ndc q3381
      have k4 : k < 4 := by
        have y := c3381
        rw [i32_le, kk.2, z4] at y
        omega
      refine zSaload (m := 2) (k := 4) vr_166_82 rfl rfl rfl ?_
      refine zSiload (m := 2) (k := 6) vr_166_84 rfl rfl rfl (fun x3385 e3385 => ?_)
      cases e3385
      refine zLiald vr_166_86 rfl (fun p3386 x3386 w3386 e3386 f3386 c3386 t3386 g3386 => ?_)
      cases e3386
      cases f3386
      have g86 := g3386
      rw [kk.1] at g86
      refine zSistore (m := 2) (k := 7) vr_166_87 rfl rfl (fun x3387 e3387 => ?_)
      cases e3387
      show zL zrx zi _ 166 89 [(7, _), (6, _), (3, _), (5, _), (4, _), (0, _), (1, _), (2, _)] [] _ _ _
      refine zSiload (m := 1) (k := 3) vr_166_89 rfl rfl rfl (fun x3388 e3388 => ?_)
      cases e3388
      refine zSiload (m := 2) (k := 7) vr_166_90 rfl rfl rfl (fun x3389 e3389 => ?_)
      cases e3389
      refine zSiload (m := 1) (k := 2) vr_166_92 rfl rfl rfl (fun x3390 e3390 => ?_)
      cases e3390
      refine zSb2 (f := fun x y => decide (¬ x = y)) (off := 7) (t := 100) vr_166_93 rfl rfl rfl (fun x3391 y3391 e3391 f3391 q3391 => ?_) (fun x3391 y3391 e3391 f3391 q3391 => ?_)
      · cases e3391
        cases f3391
        have c3391 := of_decide_eq_true q3391
        refine zSp0 (pc' := 101) (st' := .int (0) :: _) vr_166_100 rfl rfl ?_
        refine zS2 (f := fun x y => .int (x + y)) vr_166_101 rfl rfl (fun x3393 y3393 e3393 f3393 => ?_)
        cases e3393
        cases f3393
        refine zSistore (m := 1) (k := 3) vr_166_102 rfl rfl (fun x3394 e3394 => ?_)
        cases e3394
        show zL zrx zi _ 166 103 [(3, _), (7, _), (6, _), (5, _), (4, _), (0, _), (1, _), (2, _)] [] _ _ _
        refine zSiinc vr_166_103 rfl rfl (fun x3395 e3395 => ?_)
        cases e3395
        show zL zrx zi _ 166 106 [(6, _), (3, _), (7, _), (5, _), (4, _), (0, _), (1, _), (2, _)] [] _ _ _
        refine zSgo (t := 75) vr_166_106 rfl rfl ?_
        rw [ofNat_succ]
        refine zL_pm _ _ _ [(6, _), (3, _), (5, _), (4, _), (0, _), (1, _), (2, _), (7, _)] _ _ _ _ _ ⟨(List.forall_mem_cons.mpr ⟨List.mem_cons_self, (List.forall_mem_cons.mpr ⟨(List.mem_cons_of_mem _ List.mem_cons_self), (List.forall_mem_cons.mpr ⟨(List.mem_cons_of_mem _ (List.mem_cons_of_mem _ (List.mem_cons_of_mem _ (List.mem_cons_of_mem _ (List.mem_cons_of_mem _ (List.mem_cons_of_mem _ (List.mem_cons_of_mem _ List.mem_cons_self))))))), (List.forall_mem_cons.mpr ⟨(List.mem_cons_of_mem _ (List.mem_cons_of_mem _ List.mem_cons_self)), (List.forall_mem_cons.mpr ⟨(List.mem_cons_of_mem _ (List.mem_cons_of_mem _ (List.mem_cons_of_mem _ List.mem_cons_self))), (List.forall_mem_cons.mpr ⟨(List.mem_cons_of_mem _ (List.mem_cons_of_mem _ (List.mem_cons_of_mem _ (List.mem_cons_of_mem _ List.mem_cons_self)))), (List.forall_mem_cons.mpr ⟨(List.mem_cons_of_mem _ (List.mem_cons_of_mem _ (List.mem_cons_of_mem _ (List.mem_cons_of_mem _ (List.mem_cons_of_mem _ List.mem_cons_self))))), (List.forall_mem_cons.mpr ⟨(List.mem_cons_of_mem _ (List.mem_cons_of_mem _ (List.mem_cons_of_mem _ (List.mem_cons_of_mem _ (List.mem_cons_of_mem _ (List.mem_cons_of_mem _ List.mem_cons_self)))))), (fun _ h => absurd h List.not_mem_nil)⟩)⟩)⟩)⟩)⟩)⟩)⟩)⟩), show ([6, 3, 5, 4, 0, 1, 2, 7] : List Nat).Nodup by decide⟩ (C_mpl_loop n (k + 1) _ _ _ (by omega) ?_)
        first
          | exact (pcF_n (by rw [iv_of g86]; exact c3391)).trans (hD.trans (Int32.add_zero _).symm)
          | exact (pcF_y (by rw [iv_of g86]; exact Decidable.not_not.mp c3391)).trans (by rw [hD])
      · cases e3391
        cases f3391
        have c3391 := ndc q3391
        refine zSp0 (pc' := 97) (st' := .int (1) :: _) vr_166_96 rfl rfl ?_
        refine zSgo (t := 101) vr_166_97 rfl rfl ?_
        refine zS2 (f := fun x y => .int (x + y)) vr_166_101 rfl rfl (fun x3399 y3399 e3399 f3399 => ?_)
        cases e3399
        cases f3399
        refine zSistore (m := 1) (k := 3) vr_166_102 rfl rfl (fun x3400 e3400 => ?_)
        cases e3400
        show zL zrx zi _ 166 103 [(3, _), (7, _), (6, _), (5, _), (4, _), (0, _), (1, _), (2, _)] [] _ _ _
        refine zSiinc vr_166_103 rfl rfl (fun x3401 e3401 => ?_)
        cases e3401
        show zL zrx zi _ 166 106 [(6, _), (3, _), (7, _), (5, _), (4, _), (0, _), (1, _), (2, _)] [] _ _ _
        refine zSgo (t := 75) vr_166_106 rfl rfl ?_
        rw [ofNat_succ]
        refine zL_pm _ _ _ [(6, _), (3, _), (5, _), (4, _), (0, _), (1, _), (2, _), (7, _)] _ _ _ _ _ ⟨(List.forall_mem_cons.mpr ⟨List.mem_cons_self, (List.forall_mem_cons.mpr ⟨(List.mem_cons_of_mem _ List.mem_cons_self), (List.forall_mem_cons.mpr ⟨(List.mem_cons_of_mem _ (List.mem_cons_of_mem _ (List.mem_cons_of_mem _ (List.mem_cons_of_mem _ (List.mem_cons_of_mem _ (List.mem_cons_of_mem _ (List.mem_cons_of_mem _ List.mem_cons_self))))))), (List.forall_mem_cons.mpr ⟨(List.mem_cons_of_mem _ (List.mem_cons_of_mem _ List.mem_cons_self)), (List.forall_mem_cons.mpr ⟨(List.mem_cons_of_mem _ (List.mem_cons_of_mem _ (List.mem_cons_of_mem _ List.mem_cons_self))), (List.forall_mem_cons.mpr ⟨(List.mem_cons_of_mem _ (List.mem_cons_of_mem _ (List.mem_cons_of_mem _ (List.mem_cons_of_mem _ List.mem_cons_self)))), (List.forall_mem_cons.mpr ⟨(List.mem_cons_of_mem _ (List.mem_cons_of_mem _ (List.mem_cons_of_mem _ (List.mem_cons_of_mem _ (List.mem_cons_of_mem _ List.mem_cons_self))))), (List.forall_mem_cons.mpr ⟨(List.mem_cons_of_mem _ (List.mem_cons_of_mem _ (List.mem_cons_of_mem _ (List.mem_cons_of_mem _ (List.mem_cons_of_mem _ (List.mem_cons_of_mem _ List.mem_cons_self)))))), (fun _ h => absurd h List.not_mem_nil)⟩)⟩)⟩)⟩)⟩)⟩)⟩)⟩), show ([6, 3, 5, 4, 0, 1, 2, 7] : List Nat).Nodup by decide⟩ (C_mpl_loop n (k + 1) _ _ _ (by omega) ?_)
        first
          | exact (pcF_n (by rw [iv_of g86]; exact c3391)).trans (hD.trans (Int32.add_zero _).symm)
          | exact (pcF_y (by rw [iv_of g86]; exact Decidable.not_not.mp c3391)).trans (by rw [hD])
abbrev Q_mpledge (el : Nat) (cnt : Int32) (f b : Int32) (h : List zC) : zK := fun o h2 _ => ∃ (y : Int32) (h0 : List zC), o = .inl (some (.int y)) ∧ hPut h h0 213 0 (.int 0) ∧
  (((iN 4 f ∧ iN cnt.toInt b) ∧ ∃ A : Nat, gF h el b.toNatClampNeg = some (.ref A) ∧ ((iv h A 9 = 0 ∧ iv h 236 f.toNatClampNeg = -1) ∧ hPut h0 h2 236 f.toNatClampNeg (.int b) ∧ y = pcF (fun k => iv h2 236 k) b 4 ∨ ¬ (iv h A 9 = 0 ∧ iv h 236 f.toNatClampNeg = -1) ∧ hPut h0 h2 213 0 (.int 2))) ∨ (¬ (iN 4 f ∧ iN cnt.toInt b) ∧ hPut h0 h2 213 0 (.int 1)))
theorem C_mpledge (n : Nat) (f b : Int32) (h : List zC) (u : Nat) {el : Nat} {cnt : Int32} (hS : Stc h) (hL : gF h 225 1 = some (.ref el)) (hs : gF h 225 2 = some (.int cnt)) (h0c : 0 ≤ cnt.toInt) (h213 : ¬ el = 213) (hA : ∀ k, k < cnt.toNatClampNeg → ∃ A : Nat, gF h el k = some (.ref A) ∧ 239 ≤ A) (hN : gN h 236 = some 4) : zL zrx zi n 166 0 [(0, .ref 213), (1, .int f), (2, .int b)] [] h u (Q_mpledge el cnt f b h) := by
  refine zSaload (m := 1) (k := 0) vr_166_0 rfl rfl rfl ?_
  refine zSp0 (pc' := 2) (st' := .int (0) :: _) vr_166_1 rfl rfl ?_
  refine zLput vr_166_2 rfl (fun p3405 k3405 e3405 t3405 g3405 => ?_)
  cases e3405
  have t0 := g3405
  have hS0 := hS.thr t0
  have f0 : ∀ q k, ¬ (q = 213 ∧ k = 0) → gF k3405 q k = gF h q k := fun q k z => by rw [t0.2.1, if_neg z]
  have hs0 := (f0 225 2 (by omega)).trans hs
  have hL0 := (f0 225 1 (by omega)).trans hL
  refine zSiload (m := 1) (k := 1) vr_166_5 rfl rfl rfl (fun x3406 e3406 => ?_)
  cases e3406
  refine zSp0 (pc' := 7) (st' := .int (0) :: _) vr_166_6 rfl rfl ?_
  refine zSp0 (pc' := 8) (st' := .int (3) :: _) vr_166_7 rfl rfl ?_
  refine zScall vr_166_8 rfl rfl rfl (fun m3409 _ => C_in _ _ _ _ _ _) (fun v3409 h3409 u3409 q3409 => ?_) (fun E3409 h3409 u3409 q3409 => ?_)
  · obtain ⟨eh3409, z3409⟩ := q3409
    replace eh3409 := eh3409.symm
    subst eh3409
    cases z3409
    show zL zrx zi _ 166 11 [(0, _), (1, _), (2, _)] [_] _ _ _
    refine zSb1 (f := fun x => decide (x = 0)) (off := 11) (t := 22) vr_166_11 rfl rfl rfl (fun x3410 e3410 q3410 => ?_) (fun x3410 e3410 q3410 => ?_)
    · cases e3410
      have c3410 := of_decide_eq_true q3410
      refine zSaload (m := 1) (k := 0) vr_166_22 rfl rfl rfl ?_
      refine zSp0 (pc' := 24) (st' := .int (1) :: _) vr_166_23 rfl rfl ?_
      refine zScall vr_166_24 rfl rfl rfl (fun m3413 _ => C_no _ _ _ _ _) (fun v3413 h3413 u3413 q3413 => ?_) (fun E3413 h3413 u3413 q3413 => ?_)
      · obtain ⟨gn3413, z3413⟩ := q3413
        cases z3413
        show zL zrx zi _ 166 27 [(0, _), (1, _), (2, _)] [_] _ _ _
        refine zLiret vr_166_27 rfl (fun x3414 e3414 => ?_)
        cases e3414
        first
          | exact ⟨_, _, rfl, t0, Or.inr ⟨fun z => in_n (x := f) (hi := 3) (m := 4) (by decide) c3410 z.1, gn3413⟩⟩
          | exact ⟨_, _, rfl, t0, Or.inr ⟨fun z => isr_n h0c (Decidable.not_not.mp c3377) z.2, gn3413⟩⟩
      · obtain ⟨-, z⟩ := q3413
        cases z
    · cases e3410
      have c3410 := ndc q3410
      have rf4 : iN 4 f := in_y (x := f) (hi := 3) (m := 4) (by decide) c3410
      refine zSaload (m := 1) (k := 0) vr_166_14 rfl rfl rfl ?_
      refine zSiload (m := 1) (k := 2) vr_166_15 rfl rfl rfl (fun x3416 e3416 => ?_)
      cases e3416
      refine zScall vr_166_16 rfl rfl rfl (fun m3417 _ => C_isA _ _ _ _ hS0 hs0) (fun v3417 h3417 u3417 q3417 => ?_) (fun E3417 h3417 u3417 q3417 => ?_)
      · obtain ⟨eh3417, z3417⟩ := q3417
        replace eh3417 := eh3417.symm
        subst eh3417
        cases z3417
        show zL zrx zi _ 166 19 [(0, _), (1, _), (2, _)] [_] _ _ _
        refine zSb1 (f := fun x => decide (¬ x = 0)) (off := 9) (t := 28) vr_166_19 rfl rfl rfl (fun x3418 e3418 q3418 => ?_) (fun x3418 e3418 q3418 => ?_)
        · cases e3418
          have c3418 := of_decide_eq_true q3418
          have ra := isr_y h0c c3418
          obtain ⟨A, hA1, lA⟩ := hA b.toNatClampNeg (by
            obtain ⟨a1, a2⟩ := ra
            show b.toInt.toNat < cnt.toInt.toNat
            omega)
          have hq0 : gF k3405 el b.toNatClampNeg = some (.ref A) := (f0 el _ (fun z => h213 z.1)).trans hA1
          have i9 : iv k3405 A 9 = iv h A 9 := iv_eq (f0 A 9 (by omega))
          have ip : iv k3405 236 f.toNatClampNeg = iv h 236 f.toNatClampNeg := iv_eq (f0 236 _ (by omega))
          refine zSaload (m := 1) (k := 0) vr_166_28 rfl rfl rfl ?_
          refine zSiload (m := 1) (k := 2) vr_166_29 rfl rfl rfl (fun x3420 e3420 => ?_)
          cases e3420
          refine zScall vr_166_30 rfl rfl rfl (fun m3421 _ => C_isB _ _ _ _ hS0 hL0 hs0 hq0) (fun v3421 h3421 u3421 q3421 => ?_) (fun E3421 h3421 u3421 q3421 => ?_)
          · obtain ⟨eh3421, z3421⟩ := q3421
            replace eh3421 := eh3421.symm
            subst eh3421
            cases z3421
            show zL zrx zi _ 166 33 [(0, _), (1, _), (2, _)] [_] _ _ _
            refine zSb1 (f := fun x => decide (x = 0)) (off := 13) (t := 46) vr_166_33 rfl rfl rfl (fun x3422 e3422 q3422 => ?_) (fun x3422 e3422 q3422 => ?_)
            · cases e3422
              have c3422 := of_decide_eq_true q3422
              refine zSaload (m := 1) (k := 0) vr_166_46 rfl rfl rfl ?_
              refine zSp0 (pc' := 48) (st' := .int (2) :: _) vr_166_47 rfl rfl ?_
              refine zScall vr_166_48 rfl rfl rfl (fun m3425 _ => C_no _ _ _ _ _) (fun v3425 h3425 u3425 q3425 => ?_) (fun E3425 h3425 u3425 q3425 => ?_)
              · obtain ⟨gn3425, z3425⟩ := q3425
                cases z3425
                show zL zrx zi _ 166 51 [(0, _), (1, _), (2, _)] [_] _ _ _
                refine zLiret vr_166_51 rfl (fun x3426 e3426 => ?_)
                cases e3426
                first
                  | (refine ⟨_, _, rfl, t0, Or.inl ⟨⟨rf4, ra⟩, A, hA1, Or.inr ⟨fun z => ?_, gn3425⟩⟩⟩
                     have y := c3422
                     rw [i9, if_pos z.1] at y
                     exact absurd y (by decide))
                  | (refine ⟨_, _, rfl, t0, Or.inl ⟨⟨rf4, ra⟩, A, hA1, Or.inr ⟨fun z => ?_, gn3425⟩⟩⟩
                     exact c3328 (by rw [← iv_of g3326, ip]; exact z.2))
              · obtain ⟨-, z⟩ := q3425
                cases z
            · cases e3422
              have c3422 := ndc q3422
              refine zSaload (m := 1) (k := 0) vr_166_36 rfl rfl rfl ?_
              refine zLget vr_166_37 rfl (fun p3428 w3428 e3428 t3428 g3428 => ?_)
              cases e3428
              first | (rw [(st_213_14 hS0)] at g3428; cases g3428) | skip
              refine zSiload (m := 1) (k := 1) vr_166_40 rfl rfl rfl (fun x3429 e3429 => ?_)
              cases e3429
              refine zLiald vr_166_41 rfl (fun p3430 x3430 w3430 e3430 f3430 c3430 t3430 g3430 => ?_)
              cases e3430
              cases f3430
              first | (rw [(st_213_14 hS0)] at g3430; cases g3430) | skip
              refine zSp0 (pc' := 43) (st' := .int (-1) :: _) vr_166_42 rfl rfl ?_
              refine zSb2 (f := fun x y => decide (x = y)) (off := 9) (t := 52) vr_166_43 rfl rfl rfl (fun x3432 y3432 e3432 f3432 q3432 => ?_) (fun x3432 y3432 e3432 f3432 q3432 => ?_)
              · cases e3432
                cases f3432
                have c3432 := of_decide_eq_true q3432
                refine zSaload (m := 1) (k := 0) vr_166_52 rfl rfl rfl ?_
                refine zLget vr_166_53 rfl (fun p3434 w3434 e3434 t3434 g3434 => ?_)
                cases e3434
                first | (rw [(st_213_14 hS0)] at g3434; cases g3434) | skip
                refine zSiload (m := 1) (k := 1) vr_166_56 rfl rfl rfl (fun x3435 e3435 => ?_)
                cases e3435
                refine zSiload (m := 1) (k := 2) vr_166_57 rfl rfl rfl (fun x3436 e3436 => ?_)
                cases e3436
                refine zLiast vr_166_58 rfl (fun p3437 x3437 z3437 k3437 e3437 f3437 d3437 c3437 t3437 g3437 => ?_)
                cases e3437
                cases f3437
                cases d3437
                have hS1 := hS0.put g3437 (row_st (Or.inr (Or.inr (by omega))))
                refine zSp0 (pc' := 60) (st' := .int (0) :: _) vr_166_59 rfl rfl ?_
                refine zSistore (m := 1) (k := 3) vr_166_60 rfl rfl (fun x3439 e3439 => ?_)
                cases e3439
                show zL zrx zi _ 166 61 [(3, _), (0, _), (1, _), (2, _)] [] _ _ _
                refine zSaload (m := 1) (k := 0) vr_166_61 rfl rfl rfl ?_
                refine zLget vr_166_62 rfl (fun p3441 w3441 e3441 t3441 g3441 => ?_)
                cases e3441
                first | (rw [(st_213_14 hS1)] at g3441; cases g3441) | skip
                refine zSastore (m := 2) (k := 4) vr_166_65 rfl rfl ?_
                show zL zrx zi _ 166 67 [(4, _), (3, _), (0, _), (1, _), (2, _)] [] _ _ _
                refine zSaload (m := 2) (k := 4) vr_166_67 rfl rfl rfl ?_
                refine zLlen vr_166_69 rfl (fun p3444 m3444 e3444 g3444 => ?_)
                cases e3444
                have en := g3444
                rw [g3437.2.2.2, t0.2.2.2, hN] at en
                cases en
                refine zSistore (m := 2) (k := 5) vr_166_70 rfl rfl (fun x3445 e3445 => ?_)
                cases e3445
                show zL zrx zi _ 166 72 [(5, _), (4, _), (3, _), (0, _), (1, _), (2, _)] [] _ _ _
                refine zSp0 (pc' := 73) (st' := .int (0) :: _) vr_166_72 rfl rfl ?_
                refine zSistore (m := 2) (k := 6) vr_166_73 rfl rfl (fun x3447 e3447 => ?_)
                cases e3447
                show zL zrx zi _ 166 75 [(6, _), (5, _), (4, _), (3, _), (0, _), (1, _), (2, _)] [] _ _ _
                refine zL_K _ _ _ _ _ _ _ _ _ (zL_pm _ _ _ [(6, _), (3, _), (5, _), (4, _), (0, _), (1, _), (2, _), (7, _)] _ _ _ _ _ ⟨(List.forall_mem_cons.mpr ⟨List.mem_cons_self, (List.forall_mem_cons.mpr ⟨(List.mem_cons_of_mem _ (List.mem_cons_of_mem _ List.mem_cons_self)), (List.forall_mem_cons.mpr ⟨(List.mem_cons_of_mem _ (List.mem_cons_of_mem _ (List.mem_cons_of_mem _ List.mem_cons_self))), (List.forall_mem_cons.mpr ⟨(List.mem_cons_of_mem _ List.mem_cons_self), (List.forall_mem_cons.mpr ⟨(List.mem_cons_of_mem _ (List.mem_cons_of_mem _ (List.mem_cons_of_mem _ (List.mem_cons_of_mem _ List.mem_cons_self)))), (List.forall_mem_cons.mpr ⟨(List.mem_cons_of_mem _ (List.mem_cons_of_mem _ (List.mem_cons_of_mem _ (List.mem_cons_of_mem _ (List.mem_cons_of_mem _ List.mem_cons_self))))), (List.forall_mem_cons.mpr ⟨(List.mem_cons_of_mem _ (List.mem_cons_of_mem _ (List.mem_cons_of_mem _ (List.mem_cons_of_mem _ (List.mem_cons_of_mem _ (List.mem_cons_of_mem _ List.mem_cons_self)))))), (fun _ h => absurd h List.not_mem_nil)⟩)⟩)⟩)⟩)⟩)⟩)⟩), show ([6, 3, 5, 4, 0, 1, 2, 7] : List Nat).Nodup by decide⟩ (C_mpl_loop _ 0 _ .null _ (by omega) rfl)) (fun o h2 u2 q => ?_)
                obtain ⟨q1, q2⟩ := q
                subst q1
                refine ⟨_, _, q2, t0, Or.inl ⟨⟨rf4, ra⟩, A, hA1, Or.inl ⟨⟨?_, ?_⟩, g3437, rfl⟩⟩⟩
                · have y := c3422
                  rw [i9] at y
                  by_cases z : iv h A 9 = 0
                  · exact z
                  · rw [if_neg z] at y
                    exact absurd rfl y
                · rw [← ip, iv_of g3430]
                  exact c3432
              · cases e3432
                cases f3432
                have c3432 := ndc q3432
                refine zSaload (m := 1) (k := 0) vr_166_46 rfl rfl rfl ?_
                refine zSp0 (pc' := 48) (st' := .int (2) :: _) vr_166_47 rfl rfl ?_
                refine zScall vr_166_48 rfl rfl rfl (fun m3450 _ => C_no _ _ _ _ _) (fun v3450 h3450 u3450 q3450 => ?_) (fun E3450 h3450 u3450 q3450 => ?_)
                · obtain ⟨gn3450, z3450⟩ := q3450
                  cases z3450
                  show zL zrx zi _ 166 51 [(0, _), (1, _), (2, _)] [_] _ _ _
                  refine zLiret vr_166_51 rfl (fun x3451 e3451 => ?_)
                  cases e3451
                  first
                    | (refine ⟨_, _, rfl, t0, Or.inl ⟨⟨rf4, ra⟩, A, hA1, Or.inr ⟨fun z => ?_, gn3450⟩⟩⟩
                       have y := c3422
                       rw [i9, if_pos z.1] at y
                       exact absurd y (by decide))
                    | (refine ⟨_, _, rfl, t0, Or.inl ⟨⟨rf4, ra⟩, A, hA1, Or.inr ⟨fun z => ?_, gn3450⟩⟩⟩
                       exact c3432 (by rw [← iv_of g3430, ip]; exact z.2))
                · obtain ⟨-, z⟩ := q3450
                  cases z
          · obtain ⟨-, z⟩ := q3421
            cases z
        · cases e3418
          have c3418 := ndc q3418
          refine zSaload (m := 1) (k := 0) vr_166_22 rfl rfl rfl ?_
          refine zSp0 (pc' := 24) (st' := .int (1) :: _) vr_166_23 rfl rfl ?_
          refine zScall vr_166_24 rfl rfl rfl (fun m3454 _ => C_no _ _ _ _ _) (fun v3454 h3454 u3454 q3454 => ?_) (fun E3454 h3454 u3454 q3454 => ?_)
          · obtain ⟨gn3454, z3454⟩ := q3454
            cases z3454
            show zL zrx zi _ 166 27 [(0, _), (1, _), (2, _)] [_] _ _ _
            refine zLiret vr_166_27 rfl (fun x3455 e3455 => ?_)
            cases e3455
            first
              | exact ⟨_, _, rfl, t0, Or.inr ⟨fun z => in_n (x := f) (hi := 3) (m := 4) (by decide) c3410 z.1, gn3454⟩⟩
              | exact ⟨_, _, rfl, t0, Or.inr ⟨fun z => isr_n h0c (Decidable.not_not.mp c3418) z.2, gn3454⟩⟩
          · obtain ⟨-, z⟩ := q3454
            cases z
      · obtain ⟨-, z⟩ := q3417
        cases z
  · obtain ⟨-, z⟩ := q3409
    cases z
set_option maxRecDepth 20000 in
theorem C_mvo_loop {h : List zC} {x y m : Int32} {A : Nat} (hS : Stc h) (hm : gF h A 0 = some (.int m)) (lA : 239 ≤ A) : ∀ (n k : Nat) (hk : List zC) (u : Nat), k ≤ 4 → rLM m.toNatClampNeg h hk x k → zL zrx zi n 170 91 [(4, .int (Int32.ofNat k)), (3, .ref A), (2, .int y), (0, .ref 213), (1, .int x)] [] hk u (fun o h2 _ => o = .inl (some (.int y)) ∧ rLM m.toNatClampNeg h h2 x 4)
  | 0, _, _, _ => fun _ _ => trivial
  | n + 1, k, hk, u => fun k4 r => by
    have kk := (toNat_ofNat (m := k) (by omega))
    have z4 : (4 : Int32).toInt = 4 := rfl
    have hS2 : Stc hk := r.stc hS (fun f hf => row_st (Or.inr (Or.inr (by omega)))) (fun f hf => row_st (Or.inr (Or.inr (by omega))))
    refine zLp vr_170_91 rfl rfl ?_
    refine zSp0 (pc' := 94) (st' := .int (4) :: _) vr_170_93 rfl rfl ?_
    refine zSb2 (f := fun x y => decide (y ≤ x)) (off := 62) (t := 156) vr_170_94 rfl rfl rfl (fun x3457 y3457 e3457 f3457 q3457 => ?_) (fun x3457 y3457 e3457 f3457 q3457 => ?_)
    · cases e3457
      cases f3457
      have c3457 := of_decide_eq_true q3457
      refine zSiload (m := 1) (k := 2) vr_170_156 rfl rfl rfl (fun x3458 e3458 => ?_)
      cases e3458
      refine zLiret vr_170_157 rfl (fun x3459 e3459 => ?_)
      cases e3459
      have e : k = 4 := by
        have y := c3457
        rw [i32_le, kk.2, z4] at y
        omega
      subst e
      exact ⟨rfl, r⟩
    · cases e3457
      cases f3457
      have c3457 := ndc q3457
      have k4 : k < 4 := by
        have y := c3457
        rw [i32_le, kk.2, z4] at y
        omega
      have p0 : gF hk 236 k = gF h 236 k := r.2.2.1 _ _ (fun f hf _ => ⟨by dsimp only; omega, by dsimp only; omega⟩)
      have a0 : gF hk A 0 = some (.int m) := (r.2.2.1 _ _ (fun f hf _ => ⟨by dsimp only; omega, by dsimp only; omega⟩)).trans hm
      have m0 : gF hk (231 + k) m.toNatClampNeg = gF h (231 + k) m.toNatClampNeg := r.2.2.1 _ _ (fun f hf _ => ⟨by dsimp only; omega, by dsimp only; omega⟩)
      refine zSaload (m := 1) (k := 0) vr_170_97 rfl rfl rfl ?_
      refine zLget vr_170_98 rfl (fun p3461 w3461 e3461 t3461 g3461 => ?_)
      cases e3461
      first | (rw [(st_213_14 hS2)] at g3461; cases g3461) | (rw [(st_213_14 hS2)] at g3461; cases g3461) | (rw [f12] at g3461; cases g3461) | (rw [f30] at g3461; cases g3461) | (rw [m1] at g3461; cases g3461) | skip
      refine zSiload (m := 2) (k := 4) vr_170_101 rfl rfl rfl (fun x3462 e3462 => ?_)
      cases e3462
      refine zLiald vr_170_103 rfl (fun p3463 x3463 w3463 e3463 f3463 c3463 t3463 g3463 => ?_)
      cases e3463
      cases f3463
      first | (rw [(st_213_14 hS2)] at g3463; cases g3463) | (rw [(st_213_14 hS2)] at g3463; cases g3463) | (rw [f12] at g3463; cases g3463) | (rw [f30] at g3463; cases g3463) | (rw [m1] at g3463; cases g3463) | skip
      have g103 := g3463
      rw [kk.1] at g103
      refine zSiload (m := 1) (k := 1) vr_170_104 rfl rfl rfl (fun x3464 e3464 => ?_)
      cases e3464
      refine zSb2 (f := fun x y => decide (x = y)) (off := 6) (t := 111) vr_170_105 rfl rfl rfl (fun x3465 y3465 e3465 f3465 q3465 => ?_) (fun x3465 y3465 e3465 f3465 q3465 => ?_)
      · cases e3465
        cases f3465
        have c3465 := of_decide_eq_true q3465
        refine zSaload (m := 1) (k := 0) vr_170_111 rfl rfl rfl ?_
        refine zLget vr_170_112 rfl (fun p3467 w3467 e3467 t3467 g3467 => ?_)
        cases e3467
        first | (rw [(st_213_14 hS2)] at g3467; cases g3467) | (rw [(st_213_14 hS2)] at g3467; cases g3467) | (rw [f12] at g3467; cases g3467) | (rw [f30] at g3467; cases g3467) | (rw [m1] at g3467; cases g3467) | skip
        refine zSiload (m := 2) (k := 4) vr_170_115 rfl rfl rfl (fun x3468 e3468 => ?_)
        cases e3468
        refine zSp0 (pc' := 118) (st' := .int (-1) :: _) vr_170_117 rfl rfl ?_
        refine zLiast vr_170_118 rfl (fun p3470 x3470 z3470 k3470 e3470 f3470 d3470 c3470 t3470 g3470 => ?_)
        cases e3470
        cases f3470
        cases d3470
        have g118 := g3470
        rw [kk.1] at g118
        have hS3 := hS2.put g118 (row_st (Or.inr (Or.inr (by omega))))
        have f12 := st_213_12 hS3
        have f30 : gF k3470 230 (Int32.ofNat k).toNatClampNeg = some (.ref (231 + k)) := by
          rw [kk.1]
          exact st_mr hS3 k4
        have m1 : gF k3470 A 0 = some (.int m) := (g118.2.1 A 0).trans ((if_neg (by omega)).trans a0)
        refine zSaload (m := 1) (k := 0) vr_170_119 rfl rfl rfl ?_
        refine zLget vr_170_120 rfl (fun p3472 w3472 e3472 t3472 g3472 => ?_)
        cases e3472
        first | (rw [(st_213_14 hS2)] at g3472; cases g3472) | (rw [(st_213_14 hS2)] at g3472; cases g3472) | (rw [f12] at g3472; cases g3472) | (rw [f30] at g3472; cases g3472) | (rw [m1] at g3472; cases g3472) | skip
        refine zSiload (m := 2) (k := 4) vr_170_123 rfl rfl rfl (fun x3473 e3473 => ?_)
        cases e3473
        refine zLaald vr_170_125 rfl (fun p3474 x3474 w3474 e3474 f3474 c3474 t3474 g3474 => ?_)
        cases e3474
        cases f3474
        first | (rw [(st_213_14 hS2)] at g3474; cases g3474) | (rw [(st_213_14 hS2)] at g3474; cases g3474) | (rw [f12] at g3474; cases g3474) | (rw [f30] at g3474; cases g3474) | (rw [m1] at g3474; cases g3474) | skip
        refine zSaload (m := 1) (k := 3) vr_170_126 rfl rfl rfl ?_
        refine zLget vr_170_127 rfl (fun p3476 w3476 e3476 t3476 g3476 => ?_)
        cases e3476
        first | (rw [(st_213_14 hS2)] at g3476; cases g3476) | (rw [(st_213_14 hS2)] at g3476; cases g3476) | (rw [f12] at g3476; cases g3476) | (rw [f30] at g3476; cases g3476) | (rw [m1] at g3476; cases g3476) | skip
        refine zSp0 (pc' := 132) (st' := .int (-5) :: _) vr_170_130 rfl rfl ?_
        refine zSaload (m := 1) (k := 0) vr_170_132 rfl rfl rfl ?_
        refine zLget vr_170_133 rfl (fun p3479 w3479 e3479 t3479 g3479 => ?_)
        cases e3479
        first | (rw [(st_213_14 hS2)] at g3479; cases g3479) | (rw [(st_213_14 hS2)] at g3479; cases g3479) | (rw [f12] at g3479; cases g3479) | (rw [f30] at g3479; cases g3479) | (rw [m1] at g3479; cases g3479) | skip
        refine zSiload (m := 2) (k := 4) vr_170_136 rfl rfl rfl (fun x3480 e3480 => ?_)
        cases e3480
        refine zLaald vr_170_138 rfl (fun p3481 x3481 w3481 e3481 f3481 c3481 t3481 g3481 => ?_)
        cases e3481
        cases f3481
        first | (rw [(st_213_14 hS2)] at g3481; cases g3481) | (rw [(st_213_14 hS2)] at g3481; cases g3481) | (rw [f12] at g3481; cases g3481) | (rw [f30] at g3481; cases g3481) | (rw [m1] at g3481; cases g3481) | skip
        refine zSaload (m := 1) (k := 3) vr_170_139 rfl rfl rfl ?_
        refine zLget vr_170_140 rfl (fun p3483 w3483 e3483 t3483 g3483 => ?_)
        cases e3483
        first | (rw [(st_213_14 hS2)] at g3483; cases g3483) | (rw [(st_213_14 hS2)] at g3483; cases g3483) | (rw [f12] at g3483; cases g3483) | (rw [f30] at g3483; cases g3483) | (rw [m1] at g3483; cases g3483) | skip
        refine zLiald vr_170_143 rfl (fun p3484 x3484 w3484 e3484 f3484 c3484 t3484 g3484 => ?_)
        cases e3484
        cases f3484
        first | (rw [(st_213_14 hS2)] at g3484; cases g3484) | (rw [(st_213_14 hS2)] at g3484; cases g3484) | (rw [f12] at g3484; cases g3484) | (rw [f30] at g3484; cases g3484) | (rw [m1] at g3484; cases g3484) | skip
        refine zSp0 (pc' := 145) (st' := .int (1) :: _) vr_170_144 rfl rfl ?_
        refine zS2 (f := fun x y => .int (x - y)) vr_170_145 rfl rfl (fun x3486 y3486 e3486 f3486 => ?_)
        cases e3486
        cases f3486
        refine zScall vr_170_146 rfl rfl rfl (fun m3487 _ => C_mxI _ _ _ _ _) (fun v3487 h3487 u3487 q3487 => ?_) (fun E3487 h3487 u3487 q3487 => ?_)
        · obtain ⟨eh3487, z3487⟩ := q3487
          subst eh3487
          cases z3487
          show zL zrx zi _ 170 149 [(4, _), (3, _), (2, _), (0, _), (1, _)] [_, _, _] _ _ _
          refine zLiast vr_170_149 rfl (fun p3488 x3488 z3488 k3488 e3488 f3488 d3488 c3488 t3488 g3488 => ?_)
          cases e3488
          cases f3488
          cases d3488
          refine zSiinc vr_170_150 rfl rfl (fun x3489 e3489 => ?_)
          cases e3489
          show zL zrx zi _ 170 153 [(4, _), (3, _), (2, _), (0, _), (1, _)] [] _ _ _
          refine zSgo (t := 91) vr_170_153 rfl rfl ?_
          rw [ofNat_succ]
          have e3 : iv h 236 k = x := by
            rw [iv_of (p0.symm.trans g103)]
            exact c3465
          have g143 := g3484
          rw [g118.2.1, if_neg (by omega), m0] at g143
          refine zL_pm _ _ _ [(4, _), (3, _), (2, _), (0, _), (1, _)] _ _ _ _ _ ⟨(List.forall_mem_cons.mpr ⟨List.mem_cons_self, (List.forall_mem_cons.mpr ⟨(List.mem_cons_of_mem _ List.mem_cons_self), (List.forall_mem_cons.mpr ⟨(List.mem_cons_of_mem _ (List.mem_cons_of_mem _ List.mem_cons_self)), (List.forall_mem_cons.mpr ⟨(List.mem_cons_of_mem _ (List.mem_cons_of_mem _ (List.mem_cons_of_mem _ List.mem_cons_self))), (List.forall_mem_cons.mpr ⟨(List.mem_cons_of_mem _ (List.mem_cons_of_mem _ (List.mem_cons_of_mem _ (List.mem_cons_of_mem _ List.mem_cons_self)))), (fun _ h => absurd h List.not_mem_nil)⟩)⟩)⟩)⟩)⟩), show ([4, 3, 2, 0, 1] : List Nat).Nodup by decide⟩ (C_mvo_loop hS hm lA n (k + 1) _ _ (by omega) (r.step e3 g118 g3488 ?_ (fun f hf => by omega) (fun f g hf hg => by omega) (fun f hf => by omega)))
          rw [iv_of g143, mxI_comm]
        · obtain ⟨-, z⟩ := q3487
          cases z
      · cases e3465
        cases f3465
        have c3465 := ndc q3465
        refine zSgo (t := 150) vr_170_108 rfl rfl ?_
        refine zSiinc vr_170_150 rfl rfl (fun x3492 e3492 => ?_)
        cases e3492
        show zL zrx zi _ 170 153 [(4, _), (3, _), (2, _), (0, _), (1, _)] [] _ _ _
        refine zSgo (t := 91) vr_170_153 rfl rfl ?_
        rw [ofNat_succ]
        have hn : ¬ iv h 236 k = x := fun z => c3465 (by
          rw [← iv_of (p0.symm.trans g103)]
          exact z)
        exact zL_pm _ _ _ [(4, _), (3, _), (2, _), (0, _), (1, _)] _ _ _ _ _ ⟨(List.forall_mem_cons.mpr ⟨List.mem_cons_self, (List.forall_mem_cons.mpr ⟨(List.mem_cons_of_mem _ List.mem_cons_self), (List.forall_mem_cons.mpr ⟨(List.mem_cons_of_mem _ (List.mem_cons_of_mem _ List.mem_cons_self)), (List.forall_mem_cons.mpr ⟨(List.mem_cons_of_mem _ (List.mem_cons_of_mem _ (List.mem_cons_of_mem _ List.mem_cons_self))), (List.forall_mem_cons.mpr ⟨(List.mem_cons_of_mem _ (List.mem_cons_of_mem _ (List.mem_cons_of_mem _ (List.mem_cons_of_mem _ List.mem_cons_self)))), (fun _ h => absurd h List.not_mem_nil)⟩)⟩)⟩)⟩)⟩), show ([4, 3, 2, 0, 1] : List Nat).Nodup by decide⟩ (C_mvo_loop hS hm lA n (k + 1) _ _ (by omega) (r.skip hn))
abbrev Q_mvote (el : Nat) (cnt : Int32) (x : Int32) (h : List zC) : zK := fun o h2 _ => ∃ (y : Int32) (h0 : List zC), o = .inl (some (.int y)) ∧ hPut h h0 213 0 (.int 0) ∧
  ((iN cnt.toInt x ∧ ∃ A : Nat, gF h el x.toNatClampNeg = some (.ref A) ∧ (iv h A 9 = 0 ∧ y = hcF (fun i => bMs (fun f => iv h0 (227 + i) f) (fun f => byM 0 (iv h0 236 f) x (lkM h0 f A)) 4) 3 ∧ (∃ (h1 h3 : List zC) (m : Int32), hPut h0 h1 A 9 (.int (if 2 ≤ y then 1 else 3)) ∧ hPut h1 h3 A 10 (.int (if 2 ≤ y then iv h 213 1 + 30 else -1)) ∧ gF h3 A 0 = some (.int m) ∧ rLM m.toNatClampNeg h3 h2 x 4) ∨ ¬ iv h A 9 = 0 ∧ hPut h0 h2 213 0 (.int 2))) ∨ (¬ iN cnt.toInt x ∧ hPut h0 h2 213 0 (.int 1)))
theorem C_mvote (n : Nat) (x : Int32) (h : List zC) (u : Nat) {el : Nat} {cnt : Int32} (hS : Stc h) (hL : gF h 225 1 = some (.ref el)) (hs : gF h 225 2 = some (.int cnt)) (h0c : 0 ≤ cnt.toInt) (h213 : ¬ el = 213) (hA : ∀ k, k < cnt.toNatClampNeg → ∃ A : Nat, gF h el k = some (.ref A) ∧ 239 ≤ A) (hm : iN cnt.toInt x → ∀ A : Nat, gF h el x.toNatClampNeg = some (.ref A) → ∃ m : Int32, gF h A 0 = some (.int m)) : zL zrx zi n 170 0 [(0, .ref 213), (1, .int x)] [] h u (Q_mvote el cnt x h) := by
  refine zSaload (m := 1) (k := 0) vr_170_0 rfl rfl rfl ?_
  refine zSp0 (pc' := 2) (st' := .int (0) :: _) vr_170_1 rfl rfl ?_
  refine zLput vr_170_2 rfl (fun p3496 k3496 e3496 t3496 g3496 => ?_)
  cases e3496
  have t0 := g3496
  have hS0 := hS.thr t0
  have f0 : ∀ q k, ¬ (q = 213 ∧ k = 0) → gF k3496 q k = gF h q k := fun q k z => by rw [t0.2.1, if_neg z]
  have hs0 := (f0 225 2 (by omega)).trans hs
  have hL0 := (f0 225 1 (by omega)).trans hL
  refine zSaload (m := 1) (k := 0) vr_170_5 rfl rfl rfl ?_
  refine zSiload (m := 1) (k := 1) vr_170_6 rfl rfl rfl (fun x3498 e3498 => ?_)
  cases e3498
  refine zScall vr_170_7 rfl rfl rfl (fun m3499 _ => C_isA _ _ _ _ hS0 hs0) (fun v3499 h3499 u3499 q3499 => ?_) (fun E3499 h3499 u3499 q3499 => ?_)
  · obtain ⟨eh3499, z3499⟩ := q3499
    replace eh3499 := eh3499.symm
    subst eh3499
    cases z3499
    show zL zrx zi _ 170 10 [(0, _), (1, _)] [_] _ _ _
    refine zSb1 (f := fun x => decide (¬ x = 0)) (off := 9) (t := 19) vr_170_10 rfl rfl rfl (fun x3500 e3500 q3500 => ?_) (fun x3500 e3500 q3500 => ?_)
    · cases e3500
      have c3500 := of_decide_eq_true q3500
      have ra := isr_y h0c c3500
      obtain ⟨A, hA1, lA⟩ := hA x.toNatClampNeg (by
        obtain ⟨a1, a2⟩ := ra
        show x.toInt.toNat < cnt.toInt.toNat
        omega)
      have hq0 : gF k3496 el x.toNatClampNeg = some (.ref A) := (f0 el _ (fun z => h213 z.1)).trans hA1
      have i9 : iv k3496 A 9 = iv h A 9 := iv_eq (f0 A 9 (by omega))
      refine zSaload (m := 1) (k := 0) vr_170_19 rfl rfl rfl ?_
      refine zSiload (m := 1) (k := 1) vr_170_20 rfl rfl rfl (fun x3502 e3502 => ?_)
      cases e3502
      refine zScall vr_170_21 rfl rfl rfl (fun m3503 _ => C_isB _ _ _ _ hS0 hL0 hs0 hq0) (fun v3503 h3503 u3503 q3503 => ?_) (fun E3503 h3503 u3503 q3503 => ?_)
      · obtain ⟨eh3503, z3503⟩ := q3503
        replace eh3503 := eh3503.symm
        subst eh3503
        cases z3503
        show zL zrx zi _ 170 24 [(0, _), (1, _)] [_] _ _ _
        refine zSb1 (f := fun x => decide (¬ x = 0)) (off := 9) (t := 33) vr_170_24 rfl rfl rfl (fun x3504 e3504 q3504 => ?_) (fun x3504 e3504 q3504 => ?_)
        · cases e3504
          have c3504 := of_decide_eq_true q3504
          refine zSaload (m := 1) (k := 0) vr_170_33 rfl rfl rfl ?_
          refine zSiload (m := 1) (k := 1) vr_170_34 rfl rfl rfl (fun x3506 e3506 => ?_)
          cases e3506
          refine zSp0 (pc' := 36) (st' := .int (0) :: _) vr_170_35 rfl rfl ?_
          refine zScall vr_170_36 rfl rfl rfl (fun m3508 _ => C_hfo _ _ _ _ _ hS0 hL0 hs0 hq0) (fun v3508 h3508 u3508 q3508 => ?_) (fun E3508 h3508 u3508 q3508 => ?_)
          · obtain ⟨eh3508, z3508⟩ := q3508
            replace eh3508 := eh3508.symm
            subst eh3508
            cases z3508
            show zL zrx zi _ 170 39 [(0, _), (1, _)] [_] _ _ _
            refine zSistore (m := 1) (k := 2) vr_170_39 rfl rfl (fun x3509 e3509 => ?_)
            cases e3509
            show zL zrx zi _ 170 40 [(2, _), (0, _), (1, _)] [] _ _ _
            refine zSaload (m := 1) (k := 0) vr_170_40 rfl rfl rfl ?_
            refine zLget vr_170_41 rfl (fun p3511 w3511 e3511 t3511 g3511 => ?_)
            cases e3511
            first | (rw [(st_213_9 hS0)] at g3511; cases g3511) | skip
            refine zSiload (m := 1) (k := 1) vr_170_44 rfl rfl rfl (fun x3512 e3512 => ?_)
            cases e3512
            refine zScall vr_170_45 rfl rfl rfl (fun m3513 _ => C_get _ _ _ _ _ hL0 hs0) (fun v3513 h3513 u3513 q3513 => ?_) (fun E3513 h3513 u3513 q3513 => ?_)
            · obtain ⟨eh3513, y3513, w3513, z3513, k3513⟩ := q3513
              replace eh3513 := eh3513.symm
              subst eh3513
              cases z3513
              show zL zrx zi _ 170 50 [(2, _), (0, _), (1, _)] [_] _ _ _
              refine zLcst vr_170_50 rfl (fun p3514 e3514 => ?_)
              cases e3514
              have e1 := k3513
              rw [hq0] at e1
              cases e1
              refine zSastore (m := 1) (k := 3) vr_170_53 rfl rfl ?_
              show zL zrx zi _ 170 54 [(3, _), (2, _), (0, _), (1, _)] [] _ _ _
              refine zSaload (m := 1) (k := 3) vr_170_54 rfl rfl rfl ?_
              refine zSiload (m := 1) (k := 2) vr_170_55 rfl rfl rfl (fun x3517 e3517 => ?_)
              cases e3517
              refine zSp0 (pc' := 57) (st' := .int (2) :: _) vr_170_56 rfl rfl ?_
              refine zSb2 (f := fun x y => decide (x < y)) (off := 7) (t := 64) vr_170_57 rfl rfl rfl (fun x3519 y3519 e3519 f3519 q3519 => ?_) (fun x3519 y3519 e3519 f3519 q3519 => ?_)
              · cases e3519
                cases f3519
                have c3519 := of_decide_eq_true q3519
                refine zSp0 (pc' := 65) (st' := .int (3) :: _) vr_170_64 rfl rfl ?_
                refine zLput vr_170_65 rfl (fun p3521 k3521 e3521 t3521 g3521 => ?_)
                cases e3521
                refine zSaload (m := 1) (k := 3) vr_170_68 rfl rfl rfl ?_
                refine zSiload (m := 1) (k := 2) vr_170_69 rfl rfl rfl (fun x3523 e3523 => ?_)
                cases e3523
                refine zSp0 (pc' := 71) (st' := .int (2) :: _) vr_170_70 rfl rfl ?_
                refine zSb2 (f := fun x y => decide (x < y)) (off := 13) (t := 84) vr_170_71 rfl rfl rfl (fun x3525 y3525 e3525 f3525 q3525 => ?_) (fun x3525 y3525 e3525 f3525 q3525 => ?_)
                · cases e3525
                  cases f3525
                  have c3525 := of_decide_eq_true q3525
                  refine zSp0 (pc' := 85) (st' := .int (-1) :: _) vr_170_84 rfl rfl ?_
                  refine zLput vr_170_85 rfl (fun p3527 k3527 e3527 t3527 g3527 => ?_)
                  cases e3527
                  have hS1 := hS0.put g3521 (new_st lA)
                  have hS2 := hS1.put g3527 (new_st lA)
                  obtain ⟨m, hm⟩ := hm ra A hA1
                  have hm2 : gF k3527 A 0 = some (.int m) := by
                    rw [g3527.2.1, if_neg (by omega), g3521.2.1, if_neg (by omega), f0 A 0 (by omega)]
                    exact hm
                  have dd : 2 ≤ hcF (fun i => bMs (fun f => iv k3496 (227 + i) f) (fun f => byM 0 (iv k3496 236 f) x (lkM k3496 f A)) 4) 3 → gF k3521 213 1 = gF h 213 1 := fun _ => by
                    rw [g3521.2.1, if_neg (by omega), f0 213 1 (by omega)]
                  refine zSp0 (pc' := 89) (st' := .int (0) :: _) vr_170_88 rfl rfl ?_
                  refine zSistore (m := 2) (k := 4) vr_170_89 rfl rfl (fun x3529 e3529 => ?_)
                  cases e3529
                  show zL zrx zi _ 170 91 [(4, _), (3, _), (2, _), (0, _), (1, _)] [] _ _ _
                  refine zL_K _ _ _ _ _ _ _ _ _ (zL_pm _ _ _ [(4, _), (3, _), (2, _), (0, _), (1, _)] _ _ _ _ _ ⟨(List.forall_mem_cons.mpr ⟨List.mem_cons_self, (List.forall_mem_cons.mpr ⟨(List.mem_cons_of_mem _ List.mem_cons_self), (List.forall_mem_cons.mpr ⟨(List.mem_cons_of_mem _ (List.mem_cons_of_mem _ List.mem_cons_self)), (List.forall_mem_cons.mpr ⟨(List.mem_cons_of_mem _ (List.mem_cons_of_mem _ (List.mem_cons_of_mem _ List.mem_cons_self))), (List.forall_mem_cons.mpr ⟨(List.mem_cons_of_mem _ (List.mem_cons_of_mem _ (List.mem_cons_of_mem _ (List.mem_cons_of_mem _ List.mem_cons_self)))), (fun _ h => absurd h List.not_mem_nil)⟩)⟩)⟩)⟩)⟩), show ([4, 3, 2, 0, 1] : List Nat).Nodup by decide⟩ (C_mvo_loop hS2 hm2 lA _ 0 _ _ (by omega) rLs.refl)) (fun o h2 u2 q => ?_)
                  obtain ⟨q1, q2⟩ := q
                  refine ⟨_, _, q1, t0, Or.inl ⟨ra, A, hA1, Or.inl ⟨?_, rfl, k3521, k3527, m, ?_, ?_, hm2, q2⟩⟩⟩
                  · have y := c3504
                    rw [i9] at y
                    by_cases z : iv h A 9 = 0
                    · exact z
                    · rw [if_neg z] at y
                      exact absurd rfl y
                  · first
                      | (rw [if_pos (Int32.not_lt.mp c3519)]
                         exact g3521)
                      | (rw [if_neg (Int32.not_le.mpr c3519)]
                         exact g3521)
                  · first
                      | (have le := Int32.not_lt.mp c3525
                         rw [if_pos le, ← iv_eq (dd le), iv_of g3287]
                         exact g3527)
                      | (rw [if_neg (Int32.not_le.mpr c3525)]
                         exact g3527)
                · cases e3525
                  cases f3525
                  have c3525 := ndc q3525
                  refine zSaload (m := 1) (k := 0) vr_170_74 rfl rfl rfl ?_
                  refine zLget vr_170_75 rfl (fun p3531 w3531 e3531 t3531 g3531 => ?_)
                  cases e3531
                  first | (rw [(st_213_9 hS0)] at g3531; cases g3531) | skip
                  refine zSp0 (pc' := 80) (st' := .int (30) :: _) vr_170_78 rfl rfl ?_
                  refine zS2 (f := fun x y => .int (x + y)) vr_170_80 rfl rfl (fun x3533 y3533 e3533 f3533 => ?_)
                  cases e3533
                  cases f3533
                  refine zSgo (t := 85) vr_170_81 rfl rfl ?_
                  refine zLput vr_170_85 rfl (fun p3535 k3535 e3535 t3535 g3535 => ?_)
                  cases e3535
                  have hS1 := hS0.put g3521 (new_st lA)
                  have hS2 := hS1.put g3535 (new_st lA)
                  obtain ⟨m, hm⟩ := hm ra A hA1
                  have hm2 : gF k3535 A 0 = some (.int m) := by
                    rw [g3535.2.1, if_neg (by omega), g3521.2.1, if_neg (by omega), f0 A 0 (by omega)]
                    exact hm
                  have dd : 2 ≤ hcF (fun i => bMs (fun f => iv k3496 (227 + i) f) (fun f => byM 0 (iv k3496 236 f) x (lkM k3496 f A)) 4) 3 → gF k3521 213 1 = gF h 213 1 := fun _ => by
                    rw [g3521.2.1, if_neg (by omega), f0 213 1 (by omega)]
                  refine zSp0 (pc' := 89) (st' := .int (0) :: _) vr_170_88 rfl rfl ?_
                  refine zSistore (m := 2) (k := 4) vr_170_89 rfl rfl (fun x3537 e3537 => ?_)
                  cases e3537
                  show zL zrx zi _ 170 91 [(4, _), (3, _), (2, _), (0, _), (1, _)] [] _ _ _
                  refine zL_K _ _ _ _ _ _ _ _ _ (zL_pm _ _ _ [(4, _), (3, _), (2, _), (0, _), (1, _)] _ _ _ _ _ ⟨(List.forall_mem_cons.mpr ⟨List.mem_cons_self, (List.forall_mem_cons.mpr ⟨(List.mem_cons_of_mem _ List.mem_cons_self), (List.forall_mem_cons.mpr ⟨(List.mem_cons_of_mem _ (List.mem_cons_of_mem _ List.mem_cons_self)), (List.forall_mem_cons.mpr ⟨(List.mem_cons_of_mem _ (List.mem_cons_of_mem _ (List.mem_cons_of_mem _ List.mem_cons_self))), (List.forall_mem_cons.mpr ⟨(List.mem_cons_of_mem _ (List.mem_cons_of_mem _ (List.mem_cons_of_mem _ (List.mem_cons_of_mem _ List.mem_cons_self)))), (fun _ h => absurd h List.not_mem_nil)⟩)⟩)⟩)⟩)⟩), show ([4, 3, 2, 0, 1] : List Nat).Nodup by decide⟩ (C_mvo_loop hS2 hm2 lA _ 0 _ _ (by omega) rLs.refl)) (fun o h2 u2 q => ?_)
                  obtain ⟨q1, q2⟩ := q
                  refine ⟨_, _, q1, t0, Or.inl ⟨ra, A, hA1, Or.inl ⟨?_, rfl, k3521, k3535, m, ?_, ?_, hm2, q2⟩⟩⟩
                  · have y := c3504
                    rw [i9] at y
                    by_cases z : iv h A 9 = 0
                    · exact z
                    · rw [if_neg z] at y
                      exact absurd rfl y
                  · first
                      | (rw [if_pos (Int32.not_lt.mp c3519)]
                         exact g3521)
                      | (rw [if_neg (Int32.not_le.mpr c3519)]
                         exact g3521)
                  · first
                      | (have le := Int32.not_lt.mp c3525
                         rw [if_pos le, ← iv_eq (dd le), iv_of g3531]
                         exact g3535)
                      | (rw [if_neg (Int32.not_le.mpr c3525)]
                         exact g3535)
              · cases e3519
                cases f3519
                have c3519 := ndc q3519
                refine zSp0 (pc' := 61) (st' := .int (1) :: _) vr_170_60 rfl rfl ?_
                refine zSgo (t := 65) vr_170_61 rfl rfl ?_
                refine zLput vr_170_65 rfl (fun p3540 k3540 e3540 t3540 g3540 => ?_)
                cases e3540
                refine zSaload (m := 1) (k := 3) vr_170_68 rfl rfl rfl ?_
                refine zSiload (m := 1) (k := 2) vr_170_69 rfl rfl rfl (fun x3542 e3542 => ?_)
                cases e3542
                refine zSp0 (pc' := 71) (st' := .int (2) :: _) vr_170_70 rfl rfl ?_
                refine zSb2 (f := fun x y => decide (x < y)) (off := 13) (t := 84) vr_170_71 rfl rfl rfl (fun x3544 y3544 e3544 f3544 q3544 => ?_) (fun x3544 y3544 e3544 f3544 q3544 => ?_)
                · cases e3544
                  cases f3544
                  have c3544 := of_decide_eq_true q3544
                  refine zSp0 (pc' := 85) (st' := .int (-1) :: _) vr_170_84 rfl rfl ?_
                  refine zLput vr_170_85 rfl (fun p3546 k3546 e3546 t3546 g3546 => ?_)
                  cases e3546
                  have hS1 := hS0.put g3540 (new_st lA)
                  have hS2 := hS1.put g3546 (new_st lA)
                  obtain ⟨m, hm⟩ := hm ra A hA1
                  have hm2 : gF k3546 A 0 = some (.int m) := by
                    rw [g3546.2.1, if_neg (by omega), g3540.2.1, if_neg (by omega), f0 A 0 (by omega)]
                    exact hm
                  have dd : 2 ≤ hcF (fun i => bMs (fun f => iv k3496 (227 + i) f) (fun f => byM 0 (iv k3496 236 f) x (lkM k3496 f A)) 4) 3 → gF k3540 213 1 = gF h 213 1 := fun _ => by
                    rw [g3540.2.1, if_neg (by omega), f0 213 1 (by omega)]
                  refine zSp0 (pc' := 89) (st' := .int (0) :: _) vr_170_88 rfl rfl ?_
                  refine zSistore (m := 2) (k := 4) vr_170_89 rfl rfl (fun x3548 e3548 => ?_)
                  cases e3548
                  show zL zrx zi _ 170 91 [(4, _), (3, _), (2, _), (0, _), (1, _)] [] _ _ _
                  refine zL_K _ _ _ _ _ _ _ _ _ (zL_pm _ _ _ [(4, _), (3, _), (2, _), (0, _), (1, _)] _ _ _ _ _ ⟨(List.forall_mem_cons.mpr ⟨List.mem_cons_self, (List.forall_mem_cons.mpr ⟨(List.mem_cons_of_mem _ List.mem_cons_self), (List.forall_mem_cons.mpr ⟨(List.mem_cons_of_mem _ (List.mem_cons_of_mem _ List.mem_cons_self)), (List.forall_mem_cons.mpr ⟨(List.mem_cons_of_mem _ (List.mem_cons_of_mem _ (List.mem_cons_of_mem _ List.mem_cons_self))), (List.forall_mem_cons.mpr ⟨(List.mem_cons_of_mem _ (List.mem_cons_of_mem _ (List.mem_cons_of_mem _ (List.mem_cons_of_mem _ List.mem_cons_self)))), (fun _ h => absurd h List.not_mem_nil)⟩)⟩)⟩)⟩)⟩), show ([4, 3, 2, 0, 1] : List Nat).Nodup by decide⟩ (C_mvo_loop hS2 hm2 lA _ 0 _ _ (by omega) rLs.refl)) (fun o h2 u2 q => ?_)
                  obtain ⟨q1, q2⟩ := q
                  refine ⟨_, _, q1, t0, Or.inl ⟨ra, A, hA1, Or.inl ⟨?_, rfl, k3540, k3546, m, ?_, ?_, hm2, q2⟩⟩⟩
                  · have y := c3504
                    rw [i9] at y
                    by_cases z : iv h A 9 = 0
                    · exact z
                    · rw [if_neg z] at y
                      exact absurd rfl y
                  · first
                      | (rw [if_pos (Int32.not_lt.mp c3519)]
                         exact g3540)
                      | (rw [if_neg (Int32.not_le.mpr c3519)]
                         exact g3540)
                  · first
                      | (have le := Int32.not_lt.mp c3544
                         rw [if_pos le, ← iv_eq (dd le), iv_of g3531]
                         exact g3546)
                      | (rw [if_neg (Int32.not_le.mpr c3544)]
                         exact g3546)
                · cases e3544
                  cases f3544
                  have c3544 := ndc q3544
                  refine zSaload (m := 1) (k := 0) vr_170_74 rfl rfl rfl ?_
                  refine zLget vr_170_75 rfl (fun p3550 w3550 e3550 t3550 g3550 => ?_)
                  cases e3550
                  first | (rw [(st_213_9 hS0)] at g3550; cases g3550) | skip
                  refine zSp0 (pc' := 80) (st' := .int (30) :: _) vr_170_78 rfl rfl ?_
                  refine zS2 (f := fun x y => .int (x + y)) vr_170_80 rfl rfl (fun x3552 y3552 e3552 f3552 => ?_)
                  cases e3552
                  cases f3552
                  refine zSgo (t := 85) vr_170_81 rfl rfl ?_
                  refine zLput vr_170_85 rfl (fun p3554 k3554 e3554 t3554 g3554 => ?_)
                  cases e3554
                  have hS1 := hS0.put g3540 (new_st lA)
                  have hS2 := hS1.put g3554 (new_st lA)
                  obtain ⟨m, hm⟩ := hm ra A hA1
                  have hm2 : gF k3554 A 0 = some (.int m) := by
                    rw [g3554.2.1, if_neg (by omega), g3540.2.1, if_neg (by omega), f0 A 0 (by omega)]
                    exact hm
                  have dd : 2 ≤ hcF (fun i => bMs (fun f => iv k3496 (227 + i) f) (fun f => byM 0 (iv k3496 236 f) x (lkM k3496 f A)) 4) 3 → gF k3540 213 1 = gF h 213 1 := fun _ => by
                    rw [g3540.2.1, if_neg (by omega), f0 213 1 (by omega)]
                  refine zSp0 (pc' := 89) (st' := .int (0) :: _) vr_170_88 rfl rfl ?_
                  refine zSistore (m := 2) (k := 4) vr_170_89 rfl rfl (fun x3556 e3556 => ?_)
                  cases e3556
                  show zL zrx zi _ 170 91 [(4, _), (3, _), (2, _), (0, _), (1, _)] [] _ _ _
                  refine zL_K _ _ _ _ _ _ _ _ _ (zL_pm _ _ _ [(4, _), (3, _), (2, _), (0, _), (1, _)] _ _ _ _ _ ⟨(List.forall_mem_cons.mpr ⟨List.mem_cons_self, (List.forall_mem_cons.mpr ⟨(List.mem_cons_of_mem _ List.mem_cons_self), (List.forall_mem_cons.mpr ⟨(List.mem_cons_of_mem _ (List.mem_cons_of_mem _ List.mem_cons_self)), (List.forall_mem_cons.mpr ⟨(List.mem_cons_of_mem _ (List.mem_cons_of_mem _ (List.mem_cons_of_mem _ List.mem_cons_self))), (List.forall_mem_cons.mpr ⟨(List.mem_cons_of_mem _ (List.mem_cons_of_mem _ (List.mem_cons_of_mem _ (List.mem_cons_of_mem _ List.mem_cons_self)))), (fun _ h => absurd h List.not_mem_nil)⟩)⟩)⟩)⟩)⟩), show ([4, 3, 2, 0, 1] : List Nat).Nodup by decide⟩ (C_mvo_loop hS2 hm2 lA _ 0 _ _ (by omega) rLs.refl)) (fun o h2 u2 q => ?_)
                  obtain ⟨q1, q2⟩ := q
                  refine ⟨_, _, q1, t0, Or.inl ⟨ra, A, hA1, Or.inl ⟨?_, rfl, k3540, k3554, m, ?_, ?_, hm2, q2⟩⟩⟩
                  · have y := c3504
                    rw [i9] at y
                    by_cases z : iv h A 9 = 0
                    · exact z
                    · rw [if_neg z] at y
                      exact absurd rfl y
                  · first
                      | (rw [if_pos (Int32.not_lt.mp c3519)]
                         exact g3540)
                      | (rw [if_neg (Int32.not_le.mpr c3519)]
                         exact g3540)
                  · first
                      | (have le := Int32.not_lt.mp c3544
                         rw [if_pos le, ← iv_eq (dd le), iv_of g3550]
                         exact g3554)
                      | (rw [if_neg (Int32.not_le.mpr c3544)]
                         exact g3554)
            · obtain ⟨-, -, w, z, -⟩ := q3513
              cases z
          · obtain ⟨-, z⟩ := q3508
            cases z
        · cases e3504
          have c3504 := ndc q3504
          refine zSaload (m := 1) (k := 0) vr_170_27 rfl rfl rfl ?_
          refine zSp0 (pc' := 29) (st' := .int (2) :: _) vr_170_28 rfl rfl ?_
          refine zScall vr_170_29 rfl rfl rfl (fun m3559 _ => C_no _ _ _ _ _) (fun v3559 h3559 u3559 q3559 => ?_) (fun E3559 h3559 u3559 q3559 => ?_)
          · obtain ⟨gn3559, z3559⟩ := q3559
            cases z3559
            show zL zrx zi _ 170 32 [(0, _), (1, _)] [_] _ _ _
            refine zLiret vr_170_32 rfl (fun x3560 e3560 => ?_)
            cases e3560
            refine ⟨_, _, rfl, t0, Or.inl ⟨ra, A, hA1, Or.inr ⟨fun z => ?_, gn3559⟩⟩⟩
            have y := Decidable.not_not.mp c3504
            rw [i9, if_pos z] at y
            exact absurd y (by decide)
          · obtain ⟨-, z⟩ := q3559
            cases z
      · obtain ⟨-, z⟩ := q3503
        cases z
    · cases e3500
      have c3500 := ndc q3500
      refine zSaload (m := 1) (k := 0) vr_170_13 rfl rfl rfl ?_
      refine zSp0 (pc' := 15) (st' := .int (1) :: _) vr_170_14 rfl rfl ?_
      refine zScall vr_170_15 rfl rfl rfl (fun m3563 _ => C_no _ _ _ _ _) (fun v3563 h3563 u3563 q3563 => ?_) (fun E3563 h3563 u3563 q3563 => ?_)
      · obtain ⟨gn3563, z3563⟩ := q3563
        cases z3563
        show zL zrx zi _ 170 18 [(0, _), (1, _)] [_] _ _ _
        refine zLiret vr_170_18 rfl (fun x3564 e3564 => ?_)
        cases e3564
        exact ⟨_, _, rfl, t0, Or.inr ⟨fun z => isr_n h0c (Decidable.not_not.mp c3500) z, gn3563⟩⟩
      · obtain ⟨-, z⟩ := q3563
        cases z
  · obtain ⟨-, z⟩ := q3499
    cases z
abbrev Q_mrepeal (el : Nat) (cnt : Int32) (x : Int32) (h : List zC) : zK := fun o h2 _ => ∃ (y : Int32) (h0 : List zC), o = .inl (some (.int y)) ∧ hPut h h0 213 0 (.int 0) ∧
  ((iN cnt.toInt x ∧ ∃ A : Nat, gF h el x.toNatClampNeg = some (.ref A) ∧ (iv h A 9 = 1 ∧ y = hcF (fun i => bMs (fun f => iv h0 (227 + i) f) (fun f => byM 1 (iv h0 236 f) x (lkM h0 f A)) 4) 3 ∧ (2 ≤ y ∧ (∃ h1 : List zC, hPut h0 h1 A 9 (.int 2) ∧ hPut h1 h2 A 11 (.int (iv h 213 1 + 30))) ∨ ¬ 2 ≤ y ∧ h2 = h0) ∨ ¬ iv h A 9 = 1 ∧ hPut h0 h2 213 0 (.int 2))) ∨ (¬ iN cnt.toInt x ∧ hPut h0 h2 213 0 (.int 1)))
theorem C_mrepeal (n : Nat) (x : Int32) (h : List zC) (u : Nat) {el : Nat} {cnt : Int32} (hS : Stc h) (hL : gF h 225 1 = some (.ref el)) (hs : gF h 225 2 = some (.int cnt)) (h0c : 0 ≤ cnt.toInt) (h213 : ¬ el = 213) (hA : ∀ k, k < cnt.toNatClampNeg → ∃ A : Nat, gF h el k = some (.ref A) ∧ 239 ≤ A) : zL zrx zi n 171 0 [(0, .ref 213), (1, .int x)] [] h u (Q_mrepeal el cnt x h) := by
  refine zSaload (m := 1) (k := 0) vr_171_0 rfl rfl rfl ?_
  refine zSp0 (pc' := 2) (st' := .int (0) :: _) vr_171_1 rfl rfl ?_
  refine zLput vr_171_2 rfl (fun p3567 k3567 e3567 t3567 g3567 => ?_)
  cases e3567
  have t0 := g3567
  have hS0 := hS.thr t0
  have f0 : ∀ q k, ¬ (q = 213 ∧ k = 0) → gF k3567 q k = gF h q k := fun q k z => by rw [t0.2.1, if_neg z]
  have hs0 := (f0 225 2 (by omega)).trans hs
  have hL0 := (f0 225 1 (by omega)).trans hL
  refine zSaload (m := 1) (k := 0) vr_171_5 rfl rfl rfl ?_
  refine zSiload (m := 1) (k := 1) vr_171_6 rfl rfl rfl (fun x3569 e3569 => ?_)
  cases e3569
  refine zScall vr_171_7 rfl rfl rfl (fun m3570 _ => C_isA _ _ _ _ hS0 hs0) (fun v3570 h3570 u3570 q3570 => ?_) (fun E3570 h3570 u3570 q3570 => ?_)
  · obtain ⟨eh3570, z3570⟩ := q3570
    replace eh3570 := eh3570.symm
    subst eh3570
    cases z3570
    show zL zrx zi _ 171 10 [(0, _), (1, _)] [_] _ _ _
    refine zSb1 (f := fun x => decide (¬ x = 0)) (off := 9) (t := 19) vr_171_10 rfl rfl rfl (fun x3571 e3571 q3571 => ?_) (fun x3571 e3571 q3571 => ?_)
    · cases e3571
      have c3571 := of_decide_eq_true q3571
      have ra := isr_y h0c c3571
      obtain ⟨A, hA1, lA⟩ := hA x.toNatClampNeg (by
        obtain ⟨a1, a2⟩ := ra
        show x.toInt.toNat < cnt.toInt.toNat
        omega)
      have hq0 : gF k3567 el x.toNatClampNeg = some (.ref A) := (f0 el _ (fun z => h213 z.1)).trans hA1
      have i9 : iv k3567 A 9 = iv h A 9 := iv_eq (f0 A 9 (by omega))
      refine zSaload (m := 1) (k := 0) vr_171_19 rfl rfl rfl ?_
      refine zLget vr_171_20 rfl (fun p3573 w3573 e3573 t3573 g3573 => ?_)
      cases e3573
      first | (rw [(st_213_9 hS0)] at g3573; cases g3573) | skip
      refine zSiload (m := 1) (k := 1) vr_171_23 rfl rfl rfl (fun x3574 e3574 => ?_)
      cases e3574
      refine zScall vr_171_24 rfl rfl rfl (fun m3575 _ => C_get _ _ _ _ _ hL0 hs0) (fun v3575 h3575 u3575 q3575 => ?_) (fun E3575 h3575 u3575 q3575 => ?_)
      · obtain ⟨eh3575, y3575, w3575, z3575, k3575⟩ := q3575
        replace eh3575 := eh3575.symm
        subst eh3575
        cases z3575
        show zL zrx zi _ 171 29 [(0, _), (1, _)] [_] _ _ _
        refine zLcst vr_171_29 rfl (fun p3576 e3576 => ?_)
        cases e3576
        have e1 := k3575
        rw [hq0] at e1
        cases e1
        refine zSastore (m := 1) (k := 2) vr_171_32 rfl rfl ?_
        show zL zrx zi _ 171 33 [(2, _), (0, _), (1, _)] [] _ _ _
        refine zSaload (m := 1) (k := 2) vr_171_33 rfl rfl rfl ?_
        refine zLget vr_171_34 rfl (fun p3579 w3579 e3579 t3579 g3579 => ?_)
        cases e3579
        first | (rw [(st_213_9 hS0)] at g3579; cases g3579) | skip
        refine zSp0 (pc' := 38) (st' := .int (1) :: _) vr_171_37 rfl rfl ?_
        refine zSb2 (f := fun x y => decide (x = y)) (off := 9) (t := 47) vr_171_38 rfl rfl rfl (fun x3581 y3581 e3581 f3581 q3581 => ?_) (fun x3581 y3581 e3581 f3581 q3581 => ?_)
        · cases e3581
          cases f3581
          have c3581 := of_decide_eq_true q3581
          refine zSaload (m := 1) (k := 0) vr_171_47 rfl rfl rfl ?_
          refine zSiload (m := 1) (k := 1) vr_171_48 rfl rfl rfl (fun x3583 e3583 => ?_)
          cases e3583
          refine zSp0 (pc' := 50) (st' := .int (1) :: _) vr_171_49 rfl rfl ?_
          refine zScall vr_171_50 rfl rfl rfl (fun m3585 _ => C_hfo _ _ _ _ _ hS0 hL0 hs0 hq0) (fun v3585 h3585 u3585 q3585 => ?_) (fun E3585 h3585 u3585 q3585 => ?_)
          · obtain ⟨eh3585, z3585⟩ := q3585
            replace eh3585 := eh3585.symm
            subst eh3585
            cases z3585
            show zL zrx zi _ 171 53 [(2, _), (0, _), (1, _)] [_] _ _ _
            refine zSistore (m := 1) (k := 3) vr_171_53 rfl rfl (fun x3586 e3586 => ?_)
            cases e3586
            show zL zrx zi _ 171 54 [(3, _), (2, _), (0, _), (1, _)] [] _ _ _
            refine zSiload (m := 1) (k := 3) vr_171_54 rfl rfl rfl (fun x3587 e3587 => ?_)
            cases e3587
            refine zSp0 (pc' := 56) (st' := .int (2) :: _) vr_171_55 rfl rfl ?_
            refine zSb2 (f := fun x y => decide (x < y)) (off := 19) (t := 75) vr_171_56 rfl rfl rfl (fun x3589 y3589 e3589 f3589 q3589 => ?_) (fun x3589 y3589 e3589 f3589 q3589 => ?_)
            · cases e3589
              cases f3589
              have c3589 := of_decide_eq_true q3589
              refine zSiload (m := 1) (k := 3) vr_171_75 rfl rfl rfl (fun x3590 e3590 => ?_)
              cases e3590
              refine zLiret vr_171_76 rfl (fun x3591 e3591 => ?_)
              cases e3591
              have e9 : iv h A 9 = 1 := i9.symm.trans ((iv_of g3579).trans c3581)
              first
                | (have le := Int32.not_lt.mp c3589
                   refine ⟨_, _, rfl, t0, Or.inl ⟨ra, A, hA1, Or.inl ⟨e9, rfl, Or.inl ⟨le, _, g3539, ?_⟩⟩⟩⟩
                   have dd : gF k3539 213 1 = gF h 213 1 := by
                     rw [g3539.2.1, if_neg (by omega), f0 213 1 (by omega)]
                   rw [← iv_eq dd, iv_of g3087]
                   exact g3446)
                | exact ⟨_, _, rfl, t0, Or.inl ⟨ra, A, hA1, Or.inl ⟨e9, rfl, Or.inr ⟨Int32.not_le.mpr c3589, rfl⟩⟩⟩⟩
            · cases e3589
              cases f3589
              have c3589 := ndc q3589
              refine zSaload (m := 1) (k := 2) vr_171_59 rfl rfl rfl ?_
              refine zSp0 (pc' := 61) (st' := .int (2) :: _) vr_171_60 rfl rfl ?_
              refine zLput vr_171_61 rfl (fun p3594 k3594 e3594 t3594 g3594 => ?_)
              cases e3594
              refine zSaload (m := 1) (k := 2) vr_171_64 rfl rfl rfl ?_
              refine zSaload (m := 1) (k := 0) vr_171_65 rfl rfl rfl ?_
              refine zLget vr_171_66 rfl (fun p3597 w3597 e3597 t3597 g3597 => ?_)
              cases e3597
              first | (rw [(st_213_9 hS0)] at g3597; cases g3597) | skip
              refine zSp0 (pc' := 71) (st' := .int (30) :: _) vr_171_69 rfl rfl ?_
              refine zS2 (f := fun x y => .int (x + y)) vr_171_71 rfl rfl (fun x3599 y3599 e3599 f3599 => ?_)
              cases e3599
              cases f3599
              refine zLput vr_171_72 rfl (fun p3600 k3600 e3600 t3600 g3600 => ?_)
              cases e3600
              refine zSiload (m := 1) (k := 3) vr_171_75 rfl rfl rfl (fun x3601 e3601 => ?_)
              cases e3601
              refine zLiret vr_171_76 rfl (fun x3602 e3602 => ?_)
              cases e3602
              have e9 : iv h A 9 = 1 := i9.symm.trans ((iv_of g3579).trans c3581)
              first
                | (have le := Int32.not_lt.mp c3589
                   refine ⟨_, _, rfl, t0, Or.inl ⟨ra, A, hA1, Or.inl ⟨e9, rfl, Or.inl ⟨le, _, g3594, ?_⟩⟩⟩⟩
                   have dd : gF k3594 213 1 = gF h 213 1 := by
                     rw [g3594.2.1, if_neg (by omega), f0 213 1 (by omega)]
                   rw [← iv_eq dd, iv_of g3597]
                   exact g3600)
                | exact ⟨_, _, rfl, t0, Or.inl ⟨ra, A, hA1, Or.inl ⟨e9, rfl, Or.inr ⟨Int32.not_le.mpr c3589, rfl⟩⟩⟩⟩
          · obtain ⟨-, z⟩ := q3585
            cases z
        · cases e3581
          cases f3581
          have c3581 := ndc q3581
          refine zSaload (m := 1) (k := 0) vr_171_41 rfl rfl rfl ?_
          refine zSp0 (pc' := 43) (st' := .int (2) :: _) vr_171_42 rfl rfl ?_
          refine zScall vr_171_43 rfl rfl rfl (fun m3605 _ => C_no _ _ _ _ _) (fun v3605 h3605 u3605 q3605 => ?_) (fun E3605 h3605 u3605 q3605 => ?_)
          · obtain ⟨gn3605, z3605⟩ := q3605
            cases z3605
            show zL zrx zi _ 171 46 [(2, _), (0, _), (1, _)] [_] _ _ _
            refine zLiret vr_171_46 rfl (fun x3606 e3606 => ?_)
            cases e3606
            exact ⟨_, _, rfl, t0, Or.inl ⟨ra, A, hA1, Or.inr ⟨fun z => c3581 ((iv_of g3579).symm.trans (i9.trans z)), gn3605⟩⟩⟩
          · obtain ⟨-, z⟩ := q3605
            cases z
      · obtain ⟨-, -, w, z, -⟩ := q3575
        cases z
    · cases e3571
      have c3571 := ndc q3571
      refine zSaload (m := 1) (k := 0) vr_171_13 rfl rfl rfl ?_
      refine zSp0 (pc' := 15) (st' := .int (1) :: _) vr_171_14 rfl rfl ?_
      refine zScall vr_171_15 rfl rfl rfl (fun m3609 _ => C_no _ _ _ _ _) (fun v3609 h3609 u3609 q3609 => ?_) (fun E3609 h3609 u3609 q3609 => ?_)
      · obtain ⟨gn3609, z3609⟩ := q3609
        cases z3609
        show zL zrx zi _ 171 18 [(0, _), (1, _)] [_] _ _ _
        refine zLiret vr_171_18 rfl (fun x3610 e3610 => ?_)
        cases e3610
        exact ⟨_, _, rfl, t0, Or.inr ⟨fun z => isr_n h0c (Decidable.not_not.mp c3571) z, gn3609⟩⟩
      · obtain ⟨-, z⟩ := q3609
        cases z
  · obtain ⟨-, z⟩ := q3570
    cases z

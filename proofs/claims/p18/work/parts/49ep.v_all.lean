/-! ===== values: all, 13 ===== -/
theorem vr_59_0 : zrx 59 0 = some (.iload_n 1, 0, 0) := by decide +kernel
theorem vr_59_1 : zrx 59 1 = some (.iconst 4, 0, 0) := by decide +kernel
theorem vr_59_2 : zrx 59 2 = some (.invokestatic 68, 96, 0) := by decide +kernel
theorem vr_59_5 : zrx 59 5 = some (.iload_n 2, 0, 0) := by decide +kernel
theorem vr_59_6 : zrx 59 6 = some (.iconst 0, 0, 0) := by decide +kernel
theorem vr_59_7 : zrx 59 7 = some (.iconst 2, 0, 0) := by decide +kernel
theorem vr_59_8 : zrx 59 8 = some (.invokestatic 72, 97, 0) := by decide +kernel
theorem vr_59_11 : zrx 59 11 = some (.aload_n 0, 0, 0) := by decide +kernel
theorem vr_59_12 : zrx 59 12 = some (.getfield 33, 13, 9) := by decide +kernel
theorem vr_59_15 : zrx 59 15 = some (.getfield 76, 6, 1) := by decide +kernel
theorem vr_59_18 : zrx 59 18 = some (.iload_n 1, 0, 0) := by decide +kernel
theorem vr_59_19 : zrx 59 19 = some (.iaload, 0, 0) := by decide +kernel
theorem vr_59_20 : zrx 59 20 = some (.istore_n 3, 0, 0) := by decide +kernel
theorem vr_59_21 : zrx 59 21 = some (.aload_n 0, 0, 0) := by decide +kernel
theorem vr_59_22 : zrx 59 22 = some (.getfield 33, 13, 9) := by decide +kernel
theorem vr_59_25 : zrx 59 25 = some (.getfield 76, 6, 1) := by decide +kernel
theorem vr_59_28 : zrx 59 28 = some (.iload_n 1, 0, 0) := by decide +kernel
theorem vr_59_29 : zrx 59 29 = some (.iload_n 2, 0, 0) := by decide +kernel
theorem vr_59_30 : zrx 59 30 = some (.iastore, 0, 0) := by decide +kernel
theorem vr_59_31 : zrx 59 31 = some (.iload_n 3, 0, 0) := by decide +kernel
theorem vr_59_32 : zrx 59 32 = some (.ireturn, 0, 0) := by decide +kernel
theorem vr_72_0 : zrx 72 0 = some (.iload_n 1, 0, 0) := by decide +kernel
theorem vr_72_1 : zrx 72 1 = some (.iconst 4, 0, 0) := by decide +kernel
theorem vr_72_2 : zrx 72 2 = some (.invokestatic 68, 96, 0) := by decide +kernel
theorem vr_72_5 : zrx 72 5 = some (.iload_n 2, 0, 0) := by decide +kernel
theorem vr_72_6 : zrx 72 6 = some (.iconst 0, 0, 0) := by decide +kernel
theorem vr_72_7 : zrx 72 7 = some (.iconst 3, 0, 0) := by decide +kernel
theorem vr_72_8 : zrx 72 8 = some (.invokestatic 72, 97, 0) := by decide +kernel
theorem vr_72_11 : zrx 72 11 = some (.aload_n 0, 0, 0) := by decide +kernel
theorem vr_72_12 : zrx 72 12 = some (.getfield 18, 13, 6) := by decide +kernel
theorem vr_72_15 : zrx 72 15 = some (.iload_n 1, 0, 0) := by decide +kernel
theorem vr_72_16 : zrx 72 16 = some (.iaload, 0, 0) := by decide +kernel
theorem vr_72_17 : zrx 72 17 = some (.istore_n 3, 0, 0) := by decide +kernel
theorem vr_72_18 : zrx 72 18 = some (.aload_n 0, 0, 0) := by decide +kernel
theorem vr_72_19 : zrx 72 19 = some (.getfield 18, 13, 6) := by decide +kernel
theorem vr_72_22 : zrx 72 22 = some (.iload_n 1, 0, 0) := by decide +kernel
theorem vr_72_23 : zrx 72 23 = some (.iload_n 2, 0, 0) := by decide +kernel
theorem vr_72_24 : zrx 72 24 = some (.iastore, 0, 0) := by decide +kernel
theorem vr_72_25 : zrx 72 25 = some (.iload_n 3, 0, 0) := by decide +kernel
theorem vr_72_26 : zrx 72 26 = some (.ireturn, 0, 0) := by decide +kernel
theorem vr_152_0 : zrx 152 0 = some (.aload_n 0, 0, 0) := by decide +kernel
theorem vr_152_1 : zrx 152 1 = some (.iconst 0, 0, 0) := by decide +kernel
theorem vr_152_2 : zrx 152 2 = some (.putfield 55, 18, 0) := by decide +kernel
theorem vr_152_5 : zrx 152 5 = some (.iload_n 1, 0, 0) := by decide +kernel
theorem vr_152_6 : zrx 152 6 = some (.iconst 0, 0, 0) := by decide +kernel
theorem vr_152_7 : zrx 152 7 = some (.iconst 3, 0, 0) := by decide +kernel
theorem vr_152_8 : zrx 152 8 = some (.invokestatic 209, 132, 0) := by decide +kernel
theorem vr_152_11 : zrx 152 11 = some (.ifCond .ne 9, 0, 0) := by decide +kernel
theorem vr_152_14 : zrx 152 14 = some (.aload_n 0, 0, 0) := by decide +kernel
theorem vr_152_15 : zrx 152 15 = some (.iconst 1, 0, 0) := by decide +kernel
theorem vr_152_16 : zrx 152 16 = some (.invokevirtual 212, 131, 190) := by decide +kernel
theorem vr_152_19 : zrx 152 19 = some (.ireturn, 0, 0) := by decide +kernel
theorem vr_152_20 : zrx 152 20 = some (.iload_n 2, 0, 0) := by decide +kernel
theorem vr_152_21 : zrx 152 21 = some (.iconst 0, 0, 0) := by decide +kernel
theorem vr_152_22 : zrx 152 22 = some (.iconst 2, 0, 0) := by decide +kernel
theorem vr_152_23 : zrx 152 23 = some (.invokestatic 209, 132, 0) := by decide +kernel
theorem vr_152_26 : zrx 152 26 = some (.ifCond .ne 9, 0, 0) := by decide +kernel
theorem vr_152_29 : zrx 152 29 = some (.aload_n 0, 0, 0) := by decide +kernel
theorem vr_152_30 : zrx 152 30 = some (.iconst 2, 0, 0) := by decide +kernel
theorem vr_152_31 : zrx 152 31 = some (.invokevirtual 212, 131, 190) := by decide +kernel
theorem vr_152_34 : zrx 152 34 = some (.ireturn, 0, 0) := by decide +kernel
theorem vr_152_35 : zrx 152 35 = some (.aload_n 0, 0, 0) := by decide +kernel
theorem vr_152_36 : zrx 152 36 = some (.getfield 18, 18, 6) := by decide +kernel
theorem vr_152_39 : zrx 152 39 = some (.iload_n 1, 0, 0) := by decide +kernel
theorem vr_152_40 : zrx 152 40 = some (.iaload, 0, 0) := by decide +kernel
theorem vr_152_41 : zrx 152 41 = some (.istore_n 3, 0, 0) := by decide +kernel
theorem vr_152_42 : zrx 152 42 = some (.aload_n 0, 0, 0) := by decide +kernel
theorem vr_152_43 : zrx 152 43 = some (.getfield 18, 18, 6) := by decide +kernel
theorem vr_152_46 : zrx 152 46 = some (.iload_n 1, 0, 0) := by decide +kernel
theorem vr_152_47 : zrx 152 47 = some (.iload_n 2, 0, 0) := by decide +kernel
theorem vr_152_48 : zrx 152 48 = some (.iastore, 0, 0) := by decide +kernel
theorem vr_152_49 : zrx 152 49 = some (.iload_n 3, 0, 0) := by decide +kernel
theorem vr_152_50 : zrx 152 50 = some (.ireturn, 0, 0) := by decide +kernel
theorem vr_157_0 : zrx 157 0 = some (.iload_n 1, 0, 0) := by decide +kernel
theorem vr_157_1 : zrx 157 1 = some (.iconst 0, 0, 0) := by decide +kernel
theorem vr_157_2 : zrx 157 2 = some (.aload_n 0, 0, 0) := by decide +kernel
theorem vr_157_3 : zrx 157 3 = some (.getfield 28, 18, 8) := by decide +kernel
theorem vr_157_6 : zrx 157 6 = some (.invokeinterface 59 1, 304, 35) := by decide +kernel
theorem vr_157_11 : zrx 157 11 = some (.iconst 1, 0, 0) := by decide +kernel
theorem vr_157_12 : zrx 157 12 = some (.isub, 0, 0) := by decide +kernel
theorem vr_157_13 : zrx 157 13 = some (.invokestatic 209, 132, 0) := by decide +kernel
theorem vr_157_16 : zrx 157 16 = some (.ireturn, 0, 0) := by decide +kernel
theorem vr_172_0 : zrx 172 0 = some (.aload_n 0, 0, 0) := by decide +kernel
theorem vr_172_1 : zrx 172 1 = some (.iconst 0, 0, 0) := by decide +kernel
theorem vr_172_2 : zrx 172 2 = some (.putfield 55, 18, 0) := by decide +kernel
theorem vr_172_5 : zrx 172 5 = some (.iload_n 1, 0, 0) := by decide +kernel
theorem vr_172_6 : zrx 172 6 = some (.iconst 0, 0, 0) := by decide +kernel
theorem vr_172_7 : zrx 172 7 = some (.iconst 3, 0, 0) := by decide +kernel
theorem vr_172_8 : zrx 172 8 = some (.invokestatic 209, 132, 0) := by decide +kernel
theorem vr_172_11 : zrx 172 11 = some (.ifCond .ne 9, 0, 0) := by decide +kernel
theorem vr_172_14 : zrx 172 14 = some (.aload_n 0, 0, 0) := by decide +kernel
theorem vr_172_15 : zrx 172 15 = some (.iconst 1, 0, 0) := by decide +kernel
theorem vr_172_16 : zrx 172 16 = some (.invokevirtual 212, 131, 190) := by decide +kernel
theorem vr_172_19 : zrx 172 19 = some (.ireturn, 0, 0) := by decide +kernel
theorem vr_172_20 : zrx 172 20 = some (.iload_n 2, 0, 0) := by decide +kernel
theorem vr_172_21 : zrx 172 21 = some (.iconst 0, 0, 0) := by decide +kernel
theorem vr_172_22 : zrx 172 22 = some (.iconst 3, 0, 0) := by decide +kernel
theorem vr_172_23 : zrx 172 23 = some (.invokestatic 209, 132, 0) := by decide +kernel
theorem vr_172_26 : zrx 172 26 = some (.ifCond .ne 9, 0, 0) := by decide +kernel
theorem vr_172_29 : zrx 172 29 = some (.aload_n 0, 0, 0) := by decide +kernel
theorem vr_172_30 : zrx 172 30 = some (.iconst 2, 0, 0) := by decide +kernel
theorem vr_172_31 : zrx 172 31 = some (.invokevirtual 212, 131, 190) := by decide +kernel
theorem vr_172_34 : zrx 172 34 = some (.ireturn, 0, 0) := by decide +kernel
theorem vr_172_35 : zrx 172 35 = some (.aload_n 0, 0, 0) := by decide +kernel
theorem vr_172_36 : zrx 172 36 = some (.getfield 52, 18, 15) := by decide +kernel
theorem vr_172_39 : zrx 172 39 = some (.iload_n 1, 0, 0) := by decide +kernel
theorem vr_172_40 : zrx 172 40 = some (.iaload, 0, 0) := by decide +kernel
theorem vr_172_41 : zrx 172 41 = some (.istore_n 3, 0, 0) := by decide +kernel
theorem vr_172_42 : zrx 172 42 = some (.aload_n 0, 0, 0) := by decide +kernel
theorem vr_172_43 : zrx 172 43 = some (.getfield 52, 18, 15) := by decide +kernel
theorem vr_172_46 : zrx 172 46 = some (.iload_n 1, 0, 0) := by decide +kernel
theorem vr_172_47 : zrx 172 47 = some (.iload_n 2, 0, 0) := by decide +kernel
theorem vr_172_48 : zrx 172 48 = some (.iastore, 0, 0) := by decide +kernel
theorem vr_172_49 : zrx 172 49 = some (.iload_n 3, 0, 0) := by decide +kernel
theorem vr_172_50 : zrx 172 50 = some (.ireturn, 0, 0) := by decide +kernel
theorem vr_174_0 : zrx 174 0 = some (.aload_n 0, 0, 0) := by decide +kernel
theorem vr_174_1 : zrx 174 1 = some (.iconst 0, 0, 0) := by decide +kernel
theorem vr_174_2 : zrx 174 2 = some (.putfield 55, 18, 0) := by decide +kernel
theorem vr_174_5 : zrx 174 5 = some (.aload_n 0, 0, 0) := by decide +kernel
theorem vr_174_6 : zrx 174 6 = some (.iload_n 1, 0, 0) := by decide +kernel
theorem vr_174_7 : zrx 174 7 = some (.invokevirtual 285, 157, 190) := by decide +kernel
theorem vr_174_10 : zrx 174 10 = some (.ifCond .eq 12, 0, 0) := by decide +kernel
theorem vr_174_13 : zrx 174 13 = some (.iload_n 2, 0, 0) := by decide +kernel
theorem vr_174_14 : zrx 174 14 = some (.iconst 0, 0, 0) := by decide +kernel
theorem vr_174_15 : zrx 174 15 = some (.iconst 3, 0, 0) := by decide +kernel
theorem vr_174_16 : zrx 174 16 = some (.invokestatic 209, 132, 0) := by decide +kernel
theorem vr_174_19 : zrx 174 19 = some (.ifCond .ne 9, 0, 0) := by decide +kernel
theorem vr_174_22 : zrx 174 22 = some (.aload_n 0, 0, 0) := by decide +kernel
theorem vr_174_23 : zrx 174 23 = some (.iconst 1, 0, 0) := by decide +kernel
theorem vr_174_24 : zrx 174 24 = some (.invokevirtual 212, 131, 190) := by decide +kernel
theorem vr_174_27 : zrx 174 27 = some (.ireturn, 0, 0) := by decide +kernel
theorem vr_174_28 : zrx 174 28 = some (.aload_n 0, 0, 0) := by decide +kernel
theorem vr_174_29 : zrx 174 29 = some (.getfield 28, 18, 8) := by decide +kernel
theorem vr_174_32 : zrx 174 32 = some (.iload_n 1, 0, 0) := by decide +kernel
theorem vr_174_33 : zrx 174 33 = some (.invokeinterface 65 2, 306, 35) := by decide +kernel
theorem vr_174_38 : zrx 174 38 = some (.checkcast 85, 16, 0) := by decide +kernel
theorem vr_174_41 : zrx 174 41 = some (.astore_n 3, 0, 0) := by decide +kernel
theorem vr_174_42 : zrx 174 42 = some (.aload_n 3, 0, 0) := by decide +kernel
theorem vr_174_43 : zrx 174 43 = some (.getfield 288, 16, 7) := by decide +kernel
theorem vr_174_46 : zrx 174 46 = some (.iconst (-1), 0, 0) := by decide +kernel
theorem vr_174_47 : zrx 174 47 = some (.if_icmp .eq 9, 0, 0) := by decide +kernel
theorem vr_174_50 : zrx 174 50 = some (.aload_n 0, 0, 0) := by decide +kernel
theorem vr_174_51 : zrx 174 51 = some (.iconst 2, 0, 0) := by decide +kernel
theorem vr_174_52 : zrx 174 52 = some (.invokevirtual 212, 131, 190) := by decide +kernel
theorem vr_174_55 : zrx 174 55 = some (.ireturn, 0, 0) := by decide +kernel
theorem vr_174_56 : zrx 174 56 = some (.aload_n 3, 0, 0) := by decide +kernel
theorem vr_174_57 : zrx 174 57 = some (.aload_n 0, 0, 0) := by decide +kernel
theorem vr_174_58 : zrx 174 58 = some (.aload_n 3, 0, 0) := by decide +kernel
theorem vr_174_59 : zrx 174 59 = some (.iload_n 2, 0, 0) := by decide +kernel
theorem vr_174_60 : zrx 174 60 = some (.invokevirtual 291, 173, 190) := by decide +kernel
theorem vr_174_63 : zrx 174 63 = some (.putfield 295, 16, 8) := by decide +kernel
theorem vr_174_66 : zrx 174 66 = some (.aload_n 3, 0, 0) := by decide +kernel
theorem vr_174_67 : zrx 174 67 = some (.iload_n 2, 0, 0) := by decide +kernel
theorem vr_174_68 : zrx 174 68 = some (.putfield 288, 16, 7) := by decide +kernel
theorem vr_174_71 : zrx 174 71 = some (.aload_n 3, 0, 0) := by decide +kernel
theorem vr_174_72 : zrx 174 72 = some (.getfield 295, 16, 8) := by decide +kernel
theorem vr_174_75 : zrx 174 75 = some (.ireturn, 0, 0) := by decide +kernel
theorem vr_175_0 : zrx 175 0 = some (.aload_n 0, 0, 0) := by decide +kernel
theorem vr_175_1 : zrx 175 1 = some (.iconst 0, 0, 0) := by decide +kernel
theorem vr_175_2 : zrx 175 2 = some (.putfield 55, 18, 0) := by decide +kernel
theorem vr_175_5 : zrx 175 5 = some (.aload_n 0, 0, 0) := by decide +kernel
theorem vr_175_6 : zrx 175 6 = some (.iload_n 1, 0, 0) := by decide +kernel
theorem vr_175_7 : zrx 175 7 = some (.invokevirtual 285, 157, 190) := by decide +kernel
theorem vr_175_10 : zrx 175 10 = some (.ifCond .ne 9, 0, 0) := by decide +kernel
theorem vr_175_13 : zrx 175 13 = some (.aload_n 0, 0, 0) := by decide +kernel
theorem vr_175_14 : zrx 175 14 = some (.iconst 1, 0, 0) := by decide +kernel
theorem vr_175_15 : zrx 175 15 = some (.invokevirtual 212, 131, 190) := by decide +kernel
theorem vr_175_18 : zrx 175 18 = some (.ireturn, 0, 0) := by decide +kernel
theorem vr_175_19 : zrx 175 19 = some (.aload_n 0, 0, 0) := by decide +kernel
theorem vr_175_20 : zrx 175 20 = some (.getfield 28, 18, 8) := by decide +kernel
theorem vr_175_23 : zrx 175 23 = some (.iload_n 1, 0, 0) := by decide +kernel
theorem vr_175_24 : zrx 175 24 = some (.invokeinterface 65 2, 306, 35) := by decide +kernel
theorem vr_175_29 : zrx 175 29 = some (.checkcast 85, 16, 0) := by decide +kernel
theorem vr_175_32 : zrx 175 32 = some (.astore_n 2, 0, 0) := by decide +kernel
theorem vr_175_33 : zrx 175 33 = some (.aload_n 2, 0, 0) := by decide +kernel
theorem vr_175_34 : zrx 175 34 = some (.getfield 288, 16, 7) := by decide +kernel
theorem vr_175_37 : zrx 175 37 = some (.iconst (-1), 0, 0) := by decide +kernel
theorem vr_175_38 : zrx 175 38 = some (.if_icmp .ne 9, 0, 0) := by decide +kernel
theorem vr_175_41 : zrx 175 41 = some (.aload_n 0, 0, 0) := by decide +kernel
theorem vr_175_42 : zrx 175 42 = some (.iconst 2, 0, 0) := by decide +kernel
theorem vr_175_43 : zrx 175 43 = some (.invokevirtual 212, 131, 190) := by decide +kernel
theorem vr_175_46 : zrx 175 46 = some (.ireturn, 0, 0) := by decide +kernel
theorem vr_175_47 : zrx 175 47 = some (.aload_n 0, 0, 0) := by decide +kernel
theorem vr_175_48 : zrx 175 48 = some (.dup, 0, 0) := by decide +kernel
theorem vr_175_49 : zrx 175 49 = some (.getfield 298, 18, 2) := by decide +kernel
theorem vr_175_52 : zrx 175 52 = some (.aload_n 2, 0, 0) := by decide +kernel
theorem vr_175_53 : zrx 175 53 = some (.getfield 295, 16, 8) := by decide +kernel
theorem vr_175_56 : zrx 175 56 = some (.aload_n 0, 0, 0) := by decide +kernel
theorem vr_175_57 : zrx 175 57 = some (.aload_n 2, 0, 0) := by decide +kernel
theorem vr_175_58 : zrx 175 58 = some (.invokevirtual 283, 141, 190) := by decide +kernel
theorem vr_175_61 : zrx 175 61 = some (.if_icmp .ne 7, 0, 0) := by decide +kernel
theorem vr_175_64 : zrx 175 64 = some (.iconst 0, 0, 0) := by decide +kernel
theorem vr_175_65 : zrx 175 65 = some (.goto 4, 0, 0) := by decide +kernel
theorem vr_175_68 : zrx 175 68 = some (.iconst 1, 0, 0) := by decide +kernel
theorem vr_175_69 : zrx 175 69 = some (.iadd, 0, 0) := by decide +kernel
theorem vr_175_70 : zrx 175 70 = some (.putfield 298, 18, 2) := by decide +kernel
theorem vr_175_73 : zrx 175 73 = some (.aload_n 2, 0, 0) := by decide +kernel
theorem vr_175_74 : zrx 175 74 = some (.aload_n 0, 0, 0) := by decide +kernel
theorem vr_175_75 : zrx 175 75 = some (.aload_n 2, 0, 0) := by decide +kernel
theorem vr_175_76 : zrx 175 76 = some (.invokevirtual 283, 141, 190) := by decide +kernel
theorem vr_175_79 : zrx 175 79 = some (.putfield 295, 16, 8) := by decide +kernel
theorem vr_175_82 : zrx 175 82 = some (.aload_n 2, 0, 0) := by decide +kernel
theorem vr_175_83 : zrx 175 83 = some (.getfield 295, 16, 8) := by decide +kernel
theorem vr_175_86 : zrx 175 86 = some (.ireturn, 0, 0) := by decide +kernel
theorem vr_183_0 : zrx 183 0 = some (.aload_n 0, 0, 0) := by decide +kernel
theorem vr_183_1 : zrx 183 1 = some (.iconst 0, 0, 0) := by decide +kernel
theorem vr_183_2 : zrx 183 2 = some (.putfield 55, 18, 0) := by decide +kernel
theorem vr_183_5 : zrx 183 5 = some (.aload_n 0, 0, 0) := by decide +kernel
theorem vr_183_6 : zrx 183 6 = some (.iload_n 1, 0, 0) := by decide +kernel
theorem vr_183_7 : zrx 183 7 = some (.invokevirtual 285, 157, 190) := by decide +kernel
theorem vr_183_10 : zrx 183 10 = some (.ifCond .eq 11, 0, 0) := by decide +kernel
theorem vr_183_13 : zrx 183 13 = some (.aload_n 0, 0, 0) := by decide +kernel
theorem vr_183_14 : zrx 183 14 = some (.iload_n 2, 0, 0) := by decide +kernel
theorem vr_183_15 : zrx 183 15 = some (.invokevirtual 256, 158, 190) := by decide +kernel
theorem vr_183_18 : zrx 183 18 = some (.ifCond .ne 9, 0, 0) := by decide +kernel
theorem vr_183_21 : zrx 183 21 = some (.aload_n 0, 0, 0) := by decide +kernel
theorem vr_183_22 : zrx 183 22 = some (.iconst 1, 0, 0) := by decide +kernel
theorem vr_183_23 : zrx 183 23 = some (.invokevirtual 212, 131, 190) := by decide +kernel
theorem vr_183_26 : zrx 183 26 = some (.ireturn, 0, 0) := by decide +kernel
theorem vr_183_27 : zrx 183 27 = some (.aload_n 0, 0, 0) := by decide +kernel
theorem vr_183_28 : zrx 183 28 = some (.getfield 28, 18, 8) := by decide +kernel
theorem vr_183_31 : zrx 183 31 = some (.iload_n 1, 0, 0) := by decide +kernel
theorem vr_183_32 : zrx 183 32 = some (.invokeinterface 65 2, 306, 35) := by decide +kernel
theorem vr_183_37 : zrx 183 37 = some (.checkcast 85, 16, 0) := by decide +kernel
theorem vr_183_40 : zrx 183 40 = some (.astore_n 3, 0, 0) := by decide +kernel
theorem vr_183_41 : zrx 183 41 = some (.aload_n 0, 0, 0) := by decide +kernel
theorem vr_183_42 : zrx 183 42 = some (.iload_n 2, 0, 0) := by decide +kernel
theorem vr_183_43 : zrx 183 43 = some (.aload_n 3, 0, 0) := by decide +kernel
theorem vr_183_44 : zrx 183 44 = some (.aload_n 3, 0, 0) := by decide +kernel
theorem vr_183_45 : zrx 183 45 = some (.getfield 141, 16, 6) := by decide +kernel
theorem vr_183_48 : zrx 183 48 = some (.iconst (-1), 0, 0) := by decide +kernel
theorem vr_183_49 : zrx 183 49 = some (.iconst 0, 0, 0) := by decide +kernel
theorem vr_183_50 : zrx 183 50 = some (.invokevirtual 127, 139, 190) := by decide +kernel
theorem vr_183_53 : zrx 183 53 = some (.ireturn, 0, 0) := by decide +kernel
theorem vr_203_0 : zrx 203 0 = some (.aload_n 0, 0, 0) := by decide +kernel
theorem vr_203_1 : zrx 203 1 = some (.iconst 0, 0, 0) := by decide +kernel
theorem vr_203_2 : zrx 203 2 = some (.putfield 55, 18, 0) := by decide +kernel
theorem vr_203_5 : zrx 203 5 = some (.aload_n 0, 0, 0) := by decide +kernel
theorem vr_203_6 : zrx 203 6 = some (.iload_n 1, 0, 0) := by decide +kernel
theorem vr_203_7 : zrx 203 7 = some (.invokevirtual 285, 157, 190) := by decide +kernel
theorem vr_203_10 : zrx 203 10 = some (.ifCond .eq 12, 0, 0) := by decide +kernel
theorem vr_203_13 : zrx 203 13 = some (.iload_n 2, 0, 0) := by decide +kernel
theorem vr_203_14 : zrx 203 14 = some (.iconst 0, 0, 0) := by decide +kernel
theorem vr_203_15 : zrx 203 15 = some (.iconst 3, 0, 0) := by decide +kernel
theorem vr_203_16 : zrx 203 16 = some (.invokestatic 209, 132, 0) := by decide +kernel
theorem vr_203_19 : zrx 203 19 = some (.ifCond .ne 9, 0, 0) := by decide +kernel
theorem vr_203_22 : zrx 203 22 = some (.aload_n 0, 0, 0) := by decide +kernel
theorem vr_203_23 : zrx 203 23 = some (.iconst 1, 0, 0) := by decide +kernel
theorem vr_203_24 : zrx 203 24 = some (.invokevirtual 212, 131, 190) := by decide +kernel
theorem vr_203_27 : zrx 203 27 = some (.ireturn, 0, 0) := by decide +kernel
theorem vr_203_28 : zrx 203 28 = some (.aload_n 0, 0, 0) := by decide +kernel
theorem vr_203_29 : zrx 203 29 = some (.aload_n 0, 0, 0) := by decide +kernel
theorem vr_203_30 : zrx 203 30 = some (.getfield 28, 18, 8) := by decide +kernel
theorem vr_203_33 : zrx 203 33 = some (.iload_n 1, 0, 0) := by decide +kernel
theorem vr_203_34 : zrx 203 34 = some (.invokeinterface 65 2, 306, 35) := by decide +kernel
theorem vr_203_39 : zrx 203 39 = some (.checkcast 85, 16, 0) := by decide +kernel
theorem vr_203_42 : zrx 203 42 = some (.iload_n 2, 0, 0) := by decide +kernel
theorem vr_203_43 : zrx 203 43 = some (.invokevirtual 291, 173, 190) := by decide +kernel
theorem vr_203_46 : zrx 203 46 = some (.ireturn, 0, 0) := by decide +kernel
theorem vr_204_0 : zrx 204 0 = some (.aload_n 0, 0, 0) := by decide +kernel
theorem vr_204_1 : zrx 204 1 = some (.iconst 0, 0, 0) := by decide +kernel
theorem vr_204_2 : zrx 204 2 = some (.putfield 55, 18, 0) := by decide +kernel
theorem vr_204_5 : zrx 204 5 = some (.aload_n 0, 0, 0) := by decide +kernel
theorem vr_204_6 : zrx 204 6 = some (.iload_n 1, 0, 0) := by decide +kernel
theorem vr_204_7 : zrx 204 7 = some (.invokevirtual 285, 157, 190) := by decide +kernel
theorem vr_204_10 : zrx 204 10 = some (.ifCond .eq 11, 0, 0) := by decide +kernel
theorem vr_204_13 : zrx 204 13 = some (.aload_n 0, 0, 0) := by decide +kernel
theorem vr_204_14 : zrx 204 14 = some (.iload_n 2, 0, 0) := by decide +kernel
theorem vr_204_15 : zrx 204 15 = some (.invokevirtual 256, 158, 190) := by decide +kernel
theorem vr_204_18 : zrx 204 18 = some (.ifCond .ne 9, 0, 0) := by decide +kernel
theorem vr_204_21 : zrx 204 21 = some (.aload_n 0, 0, 0) := by decide +kernel
theorem vr_204_22 : zrx 204 22 = some (.iconst 1, 0, 0) := by decide +kernel
theorem vr_204_23 : zrx 204 23 = some (.invokevirtual 212, 131, 190) := by decide +kernel
theorem vr_204_26 : zrx 204 26 = some (.ireturn, 0, 0) := by decide +kernel
theorem vr_204_27 : zrx 204 27 = some (.aload_n 0, 0, 0) := by decide +kernel
theorem vr_204_28 : zrx 204 28 = some (.aload_n 0, 0, 0) := by decide +kernel
theorem vr_204_29 : zrx 204 29 = some (.getfield 28, 18, 8) := by decide +kernel
theorem vr_204_32 : zrx 204 32 = some (.iload_n 1, 0, 0) := by decide +kernel
theorem vr_204_33 : zrx 204 33 = some (.invokeinterface 65 2, 306, 35) := by decide +kernel
theorem vr_204_38 : zrx 204 38 = some (.checkcast 85, 16, 0) := by decide +kernel
theorem vr_204_41 : zrx 204 41 = some (.aload_n 0, 0, 0) := by decide +kernel
theorem vr_204_42 : zrx 204 42 = some (.getfield 28, 18, 8) := by decide +kernel
theorem vr_204_45 : zrx 204 45 = some (.iload_n 1, 0, 0) := by decide +kernel
theorem vr_204_46 : zrx 204 46 = some (.invokeinterface 65 2, 306, 35) := by decide +kernel
theorem vr_204_51 : zrx 204 51 = some (.checkcast 85, 16, 0) := by decide +kernel
theorem vr_204_54 : zrx 204 54 = some (.getfield 141, 16, 6) := by decide +kernel
theorem vr_204_57 : zrx 204 57 = some (.iload_n 2, 0, 0) := by decide +kernel
theorem vr_204_58 : zrx 204 58 = some (.invokevirtual 144, 140, 190) := by decide +kernel
theorem vr_204_61 : zrx 204 61 = some (.ireturn, 0, 0) := by decide +kernel
theorem vr_210_0 : zrx 210 0 = some (.aload_n 3, 0, 0) := by decide +kernel
theorem vr_210_1 : zrx 210 1 = some (.aload_n 0, 0, 0) := by decide +kernel
theorem vr_210_2 : zrx 210 2 = some (.iload_n 1, 0, 0) := by decide +kernel
theorem vr_210_3 : zrx 210 3 = some (.iload_n 2, 0, 0) := by decide +kernel
theorem vr_210_4 : zrx 210 4 = some (.invokevirtual 27, 59, 140) := by decide +kernel
theorem vr_210_7 : zrx 210 7 = some (.i2l, 0, 0) := by decide +kernel
theorem vr_210_8 : zrx 210 8 = some (.putfield 13, 14, 1000) := by decide +kernel
theorem vr_210_11 : zrx 210 11 = some (.goto 11, 0, 0) := by decide +kernel
theorem vr_210_14 : zrx 210 14 = some (.astore 4, 0, 0) := by decide +kernel
theorem vr_210_16 : zrx 210 16 = some (.iconst 1, 0, 0) := by decide +kernel
theorem vr_210_17 : zrx 210 17 = some (.ireturn, 0, 0) := by decide +kernel
theorem vr_210_18 : zrx 210 18 = some (.astore 4, 0, 0) := by decide +kernel
theorem vr_210_20 : zrx 210 20 = some (.iconst 2, 0, 0) := by decide +kernel
theorem vr_210_21 : zrx 210 21 = some (.ireturn, 0, 0) := by decide +kernel
theorem vr_210_22 : zrx 210 22 = some (.iconst 0, 0, 0) := by decide +kernel
theorem vr_210_23 : zrx 210 23 = some (.ireturn, 0, 0) := by decide +kernel
theorem vr_223_0 : zrx 223 0 = some (.aload_n 3, 0, 0) := by decide +kernel
theorem vr_223_1 : zrx 223 1 = some (.aload_n 0, 0, 0) := by decide +kernel
theorem vr_223_2 : zrx 223 2 = some (.iload_n 1, 0, 0) := by decide +kernel
theorem vr_223_3 : zrx 223 3 = some (.iload_n 2, 0, 0) := by decide +kernel
theorem vr_223_4 : zrx 223 4 = some (.invokevirtual 72, 72, 140) := by decide +kernel
theorem vr_223_7 : zrx 223 7 = some (.i2l, 0, 0) := by decide +kernel
theorem vr_223_8 : zrx 223 8 = some (.putfield 13, 14, 1000) := by decide +kernel
theorem vr_223_11 : zrx 223 11 = some (.goto 11, 0, 0) := by decide +kernel
theorem vr_223_14 : zrx 223 14 = some (.astore 4, 0, 0) := by decide +kernel
theorem vr_223_16 : zrx 223 16 = some (.iconst 1, 0, 0) := by decide +kernel
theorem vr_223_17 : zrx 223 17 = some (.ireturn, 0, 0) := by decide +kernel
theorem vr_223_18 : zrx 223 18 = some (.astore 4, 0, 0) := by decide +kernel
theorem vr_223_20 : zrx 223 20 = some (.iconst 2, 0, 0) := by decide +kernel
theorem vr_223_21 : zrx 223 21 = some (.ireturn, 0, 0) := by decide +kernel
theorem vr_223_22 : zrx 223 22 = some (.iconst 0, 0, 0) := by decide +kernel
theorem vr_223_23 : zrx 223 23 = some (.ireturn, 0, 0) := by decide +kernel
theorem vh_59_2_0 : zHit (zi 59) 2 0 = none := by decide +kernel
theorem vh_59_8_1 : zHit (zi 59) 8 1 = none := by decide +kernel
theorem vh_72_2_0 : zHit (zi 72) 2 0 = none := by decide +kernel
theorem vh_72_8_1 : zHit (zi 72) 8 1 = none := by decide +kernel
theorem vh_210_4_0 : (zHit (zi 210) 4 0).map (fun r => r.2.2.1) = some 14 := by decide +kernel
theorem vh_210_4_1 : (zHit (zi 210) 4 1).map (fun r => r.2.2.1) = some 18 := by decide +kernel
theorem vh_223_4_0 : (zHit (zi 223) 4 0).map (fun r => r.2.2.1) = some 14 := by decide +kernel
theorem vh_223_4_1 : (zHit (zi 223) 4 1).map (fun r => r.2.2.1) = some 18 := by decide +kernel
theorem C_isC (n : Nat) (x : Int32) (h : List zC) (u : Nat) {cc : Int32} (hS : Stc h) (hs : gF h 224 2 = some (.int cc)) : zL zrx zi n 157 0 [(0, .ref 213), (1, .int x)] [] h u (fun o h2 _ => h2 = h ∧ o = .inl (some (.int (inB x 0 (cc - 1))))) := by
  refine zSiload (m := 1) (k := 1) vr_157_0 rfl rfl rfl (fun x6041 e6041 => ?_)
  cases e6041
  refine zSp0 (pc' := 2) (st' := .int (0) :: _) vr_157_1 rfl rfl ?_
  refine zSaload (m := 1) (k := 0) vr_157_2 rfl rfl rfl ?_
  refine zLget vr_157_3 rfl (fun p6044 w6044 e6044 t6044 g6044 => ?_)
  cases e6044
  first | (rw [(st_213_8' hS)] at g6044; cases g6044) | skip
  refine zScall vr_157_6 rfl rfl rfl (fun m6045 _ => C_lsize _ _ _ _ hs) (fun v6045 h6045 u6045 q6045 => ?_) (fun E6045 h6045 u6045 q6045 => ?_)
  · obtain ⟨eh6045, z6045⟩ := q6045
    replace eh6045 := eh6045.symm
    subst eh6045
    cases z6045
    show zL zrx zi _ 157 11 [(0, _), (1, _)] [_, _, _] _ _ _
    refine zSp0 (pc' := 12) (st' := .int (1) :: _) vr_157_11 rfl rfl ?_
    refine zS2 (f := fun x y => .int (x - y)) vr_157_12 rfl rfl (fun x6047 y6047 e6047 f6047 => ?_)
    cases e6047
    cases f6047
    refine zScall vr_157_13 rfl rfl rfl (fun m6048 _ => C_in _ _ _ _ _ _) (fun v6048 h6048 u6048 q6048 => ?_) (fun E6048 h6048 u6048 q6048 => ?_)
    · obtain ⟨eh6048, z6048⟩ := q6048
      replace eh6048 := eh6048.symm
      subst eh6048
      cases z6048
      show zL zrx zi _ 157 16 [(0, _), (1, _)] [_] _ _ _
      refine zLiret vr_157_16 rfl (fun x6049 e6049 => ?_)
      cases e6049
      exact ⟨rfl, rfl⟩
    · obtain ⟨-, z⟩ := q6048
      cases z
  · obtain ⟨-, z⟩ := q6045
    cases z
abbrev Q_mtells (el rl lc : Nat) (Fk : Nat → Nat → Int32) (cnt cr cc : Int32) (x y : Int32) (h : List zC) : zK := fun o h2 _ => ∃ (y2 : Int32) (h0 : List zC), o = .inl (some (.int y2)) ∧ hPut h h0 213 0 (.int 0) ∧
  (((iN cc.toInt x ∧ iN cnt.toInt y) ∧ h2 = h0 ∧ ∃ q : Nat, gF h0 lc x.toNatClampNeg = some (.ref q) ∧ y2 = tlM h0 el cnt.toNatClampNeg Fk q (iv h0 q 6) (-1) (tieM h0 rl cr q) 25 y.toNatClampNeg (fun _ => false)) ∨ (¬ (iN cc.toInt x ∧ iN cnt.toInt y) ∧ hPut h0 h2 213 0 (.int 1)))
theorem C_mtells (n : Nat) (x y : Int32) (h : List zC) (u : Nat) {el : Nat} {cnt : Int32} {Fk : Nat → Nat → Int32} {cr : Int32} {rl : Nat} (mc : mC h el cnt Fk cr rl) {cc : Int32} {lc : Nat} (nel : ¬ el = 213) (nrl : ¬ rl = 213) (nA : ∀ k, k < cnt.toNatClampNeg → ¬ gF h el k = some (.ref 213)) (nR : ∀ k, k < cr.toNatClampNeg → ¬ gF h rl k = some (.ref 213)) (hcs : gF h 224 2 = some (.int cc)) (hcl : gF h 224 1 = some (.ref lc)) (c0 : 0 ≤ cc.toInt) (nlc : ¬ lc = 213) (hq : ∀ k, k < cc.toNatClampNeg → ∃ q : Nat, gF h lc k = some (.ref q) ∧ ¬ q = 213 ∧ CI h q) : zL zrx zi n 183 0 [(0, .ref 213), (1, .int x), (2, .int y)] [] h u (Q_mtells el rl lc Fk cnt cr cc x y h) := by
  refine zSaload (m := 1) (k := 0) vr_183_0 rfl rfl rfl ?_
  refine zSp0 (pc' := 2) (st' := .int (0) :: _) vr_183_1 rfl rfl ?_
  refine zLput vr_183_2 rfl (fun p6052 k6052 e6052 t6052 g6052 => ?_)
  cases e6052
  have t0 := g6052
  have m0 := mc.thr t0 nel nrl nA nR
  have hS0 := m0.2.2.2.2.2.1
  have f0 : ∀ q k, ¬ (q = 213 ∧ k = 0) → gF k6052 q k = gF h q k := fun q k z => by rw [t0.2.1, if_neg z]
  have hcs0 := (f0 224 2 (by omega)).trans hcs
  have hcl0 := (f0 224 1 (by omega)).trans hcl
  refine zSaload (m := 1) (k := 0) vr_183_5 rfl rfl rfl ?_
  refine zSiload (m := 1) (k := 1) vr_183_6 rfl rfl rfl (fun x6054 e6054 => ?_)
  cases e6054
  refine zScall vr_183_7 rfl rfl rfl (fun m6055 _ => C_isC _ _ _ _ hS0 hcs0) (fun v6055 h6055 u6055 q6055 => ?_) (fun E6055 h6055 u6055 q6055 => ?_)
  · obtain ⟨eh6055, z6055⟩ := q6055
    replace eh6055 := eh6055.symm
    subst eh6055
    cases z6055
    show zL zrx zi _ 183 10 [(0, _), (1, _), (2, _)] [_] _ _ _
    refine zSb1 (f := fun x => decide (x = 0)) (off := 11) (t := 21) vr_183_10 rfl rfl rfl (fun x6056 e6056 q6056 => ?_) (fun x6056 e6056 q6056 => ?_)
    · cases e6056
      have c6056 := of_decide_eq_true q6056
      refine zSaload (m := 1) (k := 0) vr_183_21 rfl rfl rfl ?_
      refine zSp0 (pc' := 23) (st' := .int (1) :: _) vr_183_22 rfl rfl ?_
      refine zScall vr_183_23 rfl rfl rfl (fun m6059 _ => C_no _ _ _ _ _) (fun v6059 h6059 u6059 q6059 => ?_) (fun E6059 h6059 u6059 q6059 => ?_)
      · obtain ⟨gn6059, z6059⟩ := q6059
        cases z6059
        show zL zrx zi _ 183 26 [(0, _), (1, _), (2, _)] [_] _ _ _
        refine zLiret vr_183_26 rfl (fun x6060 e6060 => ?_)
        cases e6060
        exact ⟨_, _, rfl, t0, Or.inr ⟨fun z => isr_n c0 c6056 z.1, gn6059⟩⟩
      · obtain ⟨-, z⟩ := q6059
        cases z
    · cases e6056
      have c6056 := ndc q6056
      have ra := isr_y c0 c6056
      obtain ⟨q, q1, nq, ci⟩ := hq x.toNatClampNeg (by
        obtain ⟨a1, a2⟩ := ra
        show x.toInt.toNat < cc.toInt.toNat
        omega)
      have qc : gF k6052 lc x.toNatClampNeg = some (.ref q) := (f0 lc _ (fun z => nlc z.1)).trans q1
      have ci0 : CI k6052 q := ci.same (fun j _ => f0 q j (fun z => nq z.1))
      have hd6 := ci0.at (j := 6) (by omega)
      refine zSaload (m := 1) (k := 0) vr_183_13 rfl rfl rfl ?_
      refine zSiload (m := 1) (k := 2) vr_183_14 rfl rfl rfl (fun x6062 e6062 => ?_)
      cases e6062
      refine zScall vr_183_15 rfl rfl rfl (fun m6063 _ => C_isA _ _ _ _ hS0 m0.2.1) (fun v6063 h6063 u6063 q6063 => ?_) (fun E6063 h6063 u6063 q6063 => ?_)
      · obtain ⟨eh6063, z6063⟩ := q6063
        replace eh6063 := eh6063.symm
        subst eh6063
        cases z6063
        show zL zrx zi _ 183 18 [(0, _), (1, _), (2, _)] [_] _ _ _
        refine zSb1 (f := fun x => decide (¬ x = 0)) (off := 9) (t := 27) vr_183_18 rfl rfl rfl (fun x6064 e6064 q6064 => ?_) (fun x6064 e6064 q6064 => ?_)
        · cases e6064
          have c6064 := of_decide_eq_true q6064
          have rb := isr_y m0.2.2.1 c6064
          have ey : y = Int32.ofNat y.toNatClampNeg := ofn_nat rb.1
          have yl : y.toNatClampNeg < cnt.toNatClampNeg := iN_cc m0.2.2.1 rb
          refine zSaload (m := 1) (k := 0) vr_183_27 rfl rfl rfl ?_
          refine zLget vr_183_28 rfl (fun p6066 w6066 e6066 t6066 g6066 => ?_)
          cases e6066
          first | (rw [(st_213_8' hS0)] at g6066; cases g6066) | (rw [hd6] at g6066; cases g6066) | skip
          refine zSiload (m := 1) (k := 1) vr_183_31 rfl rfl rfl (fun x6067 e6067 => ?_)
          cases e6067
          refine zScall vr_183_32 rfl rfl rfl (fun m6068 _ => C_get _ _ _ _ _ hcl0 hcs0) (fun v6068 h6068 u6068 q6068 => ?_) (fun E6068 h6068 u6068 q6068 => ?_)
          · obtain ⟨eh6068, y6068, w6068, z6068, k6068⟩ := q6068
            replace eh6068 := eh6068.symm
            subst eh6068
            cases z6068
            show zL zrx zi _ 183 37 [(0, _), (1, _), (2, _)] [_] _ _ _
            refine zLcst vr_183_37 rfl (fun p6069 e6069 => ?_)
            cases e6069
            refine zSastore (m := 1) (k := 3) vr_183_40 rfl rfl ?_
            show zL zrx zi _ 183 41 [(3, _), (0, _), (1, _), (2, _)] [] _ _ _
            have e1 := k6068
            rw [qc] at e1
            cases e1
            refine zSaload (m := 1) (k := 0) vr_183_41 rfl rfl rfl ?_
            refine zSiload (m := 1) (k := 2) vr_183_42 rfl rfl rfl (fun x6072 e6072 => ?_)
            cases e6072
            rw [ey]
            refine zSaload (m := 1) (k := 3) vr_183_43 rfl rfl rfl ?_
            refine zSaload (m := 1) (k := 3) vr_183_44 rfl rfl rfl ?_
            refine zLget vr_183_45 rfl (fun p6075 w6075 e6075 t6075 g6075 => ?_)
            cases e6075
            first | (rw [(st_213_8' hS0)] at g6075; cases g6075) | (rw [hd6] at g6075; cases g6075) | skip
            refine zSp0 (pc' := 49) (st' := .int (-1) :: _) vr_183_48 rfl rfl ?_
            refine zSp0 (pc' := 50) (st' := .int (0) :: _) vr_183_49 rfl rfl ?_
            refine zScall vr_183_50 rfl rfl rfl (fun m6078 _ => C_mTo _ _ _ _ _ _ _ m0 ci0 yl) (fun v6078 h6078 u6078 q6078 => ?_) (fun E6078 h6078 u6078 q6078 => ?_)
            · obtain ⟨eh6078, z6078⟩ := q6078
              replace eh6078 := eh6078.symm
              subst eh6078
              cases z6078
              show zL zrx zi _ 183 53 [(3, _), (0, _), (1, _), (2, _)] [_] _ _ _
              refine zLiret vr_183_53 rfl (fun x6079 e6079 => ?_)
              cases e6079
              rw [← ey]
              exact ⟨_, _, rfl, t0, Or.inl ⟨⟨ra, rb⟩, rfl, q, qc, rfl⟩⟩
            · obtain ⟨-, z⟩ := q6078
              cases z
          · obtain ⟨-, -, w, z, -⟩ := q6068
            cases z
        · cases e6064
          have c6064 := ndc q6064
          refine zSaload (m := 1) (k := 0) vr_183_21 rfl rfl rfl ?_
          refine zSp0 (pc' := 23) (st' := .int (1) :: _) vr_183_22 rfl rfl ?_
          refine zScall vr_183_23 rfl rfl rfl (fun m6082 _ => C_no _ _ _ _ _) (fun v6082 h6082 u6082 q6082 => ?_) (fun E6082 h6082 u6082 q6082 => ?_)
          · obtain ⟨gn6082, z6082⟩ := q6082
            cases z6082
            show zL zrx zi _ 183 26 [(0, _), (1, _), (2, _)] [_] _ _ _
            refine zLiret vr_183_26 rfl (fun x6083 e6083 => ?_)
            cases e6083
            exact ⟨_, _, rfl, t0, Or.inr ⟨fun z => isr_n mc.2.2.1 (Decidable.not_not.mp c6064) z.2, gn6082⟩⟩
          · obtain ⟨-, z⟩ := q6082
            cases z
      · obtain ⟨-, z⟩ := q6063
        cases z
  · obtain ⟨-, z⟩ := q6055
    cases z
abbrev Q_mwithout (el rl lc : Nat) (Fk : Nat → Nat → Int32) (cnt cr cc : Int32) (x y : Int32) (h : List zC) : zK := fun o h2 _ => ∃ (y2 : Int32) (h0 : List zC), o = .inl (some (.int y2)) ∧ hPut h h0 213 0 (.int 0) ∧
  (((iN cc.toInt x ∧ iN cnt.toInt y) ∧ h2 = h0 ∧ ∃ q : Nat, gF h0 lc x.toNatClampNeg = some (.ref q) ∧ y2 = mT h0 el cnt Fk cr rl q (iv h0 q 6) y) ∨ (¬ (iN cc.toInt x ∧ iN cnt.toInt y) ∧ hPut h0 h2 213 0 (.int 1)))
theorem C_mwithout (n : Nat) (x y : Int32) (h : List zC) (u : Nat) {el : Nat} {cnt : Int32} {Fk : Nat → Nat → Int32} {cr : Int32} {rl : Nat} (mc : mC h el cnt Fk cr rl) {cc : Int32} {lc : Nat} (nel : ¬ el = 213) (nrl : ¬ rl = 213) (nA : ∀ k, k < cnt.toNatClampNeg → ¬ gF h el k = some (.ref 213)) (nR : ∀ k, k < cr.toNatClampNeg → ¬ gF h rl k = some (.ref 213)) (hcs : gF h 224 2 = some (.int cc)) (hcl : gF h 224 1 = some (.ref lc)) (c0 : 0 ≤ cc.toInt) (nlc : ¬ lc = 213) (hq : ∀ k, k < cc.toNatClampNeg → ∃ q : Nat, gF h lc k = some (.ref q) ∧ ¬ q = 213 ∧ CI h q) : zL zrx zi n 204 0 [(0, .ref 213), (1, .int x), (2, .int y)] [] h u (Q_mwithout el rl lc Fk cnt cr cc x y h) := by
  refine zSaload (m := 1) (k := 0) vr_204_0 rfl rfl rfl ?_
  refine zSp0 (pc' := 2) (st' := .int (0) :: _) vr_204_1 rfl rfl ?_
  refine zLput vr_204_2 rfl (fun p6086 k6086 e6086 t6086 g6086 => ?_)
  cases e6086
  have t0 := g6086
  have m0 := mc.thr t0 nel nrl nA nR
  have hS0 := m0.2.2.2.2.2.1
  have f0 : ∀ q k, ¬ (q = 213 ∧ k = 0) → gF k6086 q k = gF h q k := fun q k z => by rw [t0.2.1, if_neg z]
  have hcs0 := (f0 224 2 (by omega)).trans hcs
  have hcl0 := (f0 224 1 (by omega)).trans hcl
  refine zSaload (m := 1) (k := 0) vr_204_5 rfl rfl rfl ?_
  refine zSiload (m := 1) (k := 1) vr_204_6 rfl rfl rfl (fun x6088 e6088 => ?_)
  cases e6088
  refine zScall vr_204_7 rfl rfl rfl (fun m6089 _ => C_isC _ _ _ _ hS0 hcs0) (fun v6089 h6089 u6089 q6089 => ?_) (fun E6089 h6089 u6089 q6089 => ?_)
  · obtain ⟨eh6089, z6089⟩ := q6089
    replace eh6089 := eh6089.symm
    subst eh6089
    cases z6089
    show zL zrx zi _ 204 10 [(0, _), (1, _), (2, _)] [_] _ _ _
    refine zSb1 (f := fun x => decide (x = 0)) (off := 11) (t := 21) vr_204_10 rfl rfl rfl (fun x6090 e6090 q6090 => ?_) (fun x6090 e6090 q6090 => ?_)
    · cases e6090
      have c6090 := of_decide_eq_true q6090
      refine zSaload (m := 1) (k := 0) vr_204_21 rfl rfl rfl ?_
      refine zSp0 (pc' := 23) (st' := .int (1) :: _) vr_204_22 rfl rfl ?_
      refine zScall vr_204_23 rfl rfl rfl (fun m6093 _ => C_no _ _ _ _ _) (fun v6093 h6093 u6093 q6093 => ?_) (fun E6093 h6093 u6093 q6093 => ?_)
      · obtain ⟨gn6093, z6093⟩ := q6093
        cases z6093
        show zL zrx zi _ 204 26 [(0, _), (1, _), (2, _)] [_] _ _ _
        refine zLiret vr_204_26 rfl (fun x6094 e6094 => ?_)
        cases e6094
        exact ⟨_, _, rfl, t0, Or.inr ⟨fun z => isr_n c0 c6090 z.1, gn6093⟩⟩
      · obtain ⟨-, z⟩ := q6093
        cases z
    · cases e6090
      have c6090 := ndc q6090
      have ra := isr_y c0 c6090
      obtain ⟨q, q1, nq, ci⟩ := hq x.toNatClampNeg (by
        obtain ⟨a1, a2⟩ := ra
        show x.toInt.toNat < cc.toInt.toNat
        omega)
      have qc : gF k6086 lc x.toNatClampNeg = some (.ref q) := (f0 lc _ (fun z => nlc z.1)).trans q1
      have ci0 : CI k6086 q := ci.same (fun j _ => f0 q j (fun z => nq z.1))
      have hd6 := ci0.at (j := 6) (by omega)
      refine zSaload (m := 1) (k := 0) vr_204_13 rfl rfl rfl ?_
      refine zSiload (m := 1) (k := 2) vr_204_14 rfl rfl rfl (fun x6096 e6096 => ?_)
      cases e6096
      refine zScall vr_204_15 rfl rfl rfl (fun m6097 _ => C_isA _ _ _ _ hS0 m0.2.1) (fun v6097 h6097 u6097 q6097 => ?_) (fun E6097 h6097 u6097 q6097 => ?_)
      · obtain ⟨eh6097, z6097⟩ := q6097
        replace eh6097 := eh6097.symm
        subst eh6097
        cases z6097
        show zL zrx zi _ 204 18 [(0, _), (1, _), (2, _)] [_] _ _ _
        refine zSb1 (f := fun x => decide (¬ x = 0)) (off := 9) (t := 27) vr_204_18 rfl rfl rfl (fun x6098 e6098 q6098 => ?_) (fun x6098 e6098 q6098 => ?_)
        · cases e6098
          have c6098 := of_decide_eq_true q6098
          have rb := isr_y m0.2.2.1 c6098
          refine zSaload (m := 1) (k := 0) vr_204_27 rfl rfl rfl ?_
          refine zSaload (m := 1) (k := 0) vr_204_28 rfl rfl rfl ?_
          refine zLget vr_204_29 rfl (fun p6101 w6101 e6101 t6101 g6101 => ?_)
          cases e6101
          first | (rw [(st_213_8' hS0)] at g6101; cases g6101) | (rw [hd6] at g6101; cases g6101) | skip
          refine zSiload (m := 1) (k := 1) vr_204_32 rfl rfl rfl (fun x6102 e6102 => ?_)
          cases e6102
          refine zScall vr_204_33 rfl rfl rfl (fun m6103 _ => C_get _ _ _ _ _ hcl0 hcs0) (fun v6103 h6103 u6103 q6103 => ?_) (fun E6103 h6103 u6103 q6103 => ?_)
          · obtain ⟨eh6103, y6103, w6103, z6103, k6103⟩ := q6103
            replace eh6103 := eh6103.symm
            subst eh6103
            cases z6103
            show zL zrx zi _ 204 38 [(0, _), (1, _), (2, _)] [_, _] _ _ _
            refine zLcst vr_204_38 rfl (fun p6104 e6104 => ?_)
            cases e6104
            have e1 := k6103
            rw [qc] at e1
            cases e1
            refine zSaload (m := 1) (k := 0) vr_204_41 rfl rfl rfl ?_
            refine zLget vr_204_42 rfl (fun p6106 w6106 e6106 t6106 g6106 => ?_)
            cases e6106
            first | (rw [(st_213_8' hS0)] at g6106; cases g6106) | (rw [hd6] at g6106; cases g6106) | skip
            refine zSiload (m := 1) (k := 1) vr_204_45 rfl rfl rfl (fun x6107 e6107 => ?_)
            cases e6107
            refine zScall vr_204_46 rfl rfl rfl (fun m6108 _ => C_get _ _ _ _ _ hcl0 hcs0) (fun v6108 h6108 u6108 q6108 => ?_) (fun E6108 h6108 u6108 q6108 => ?_)
            · obtain ⟨eh6108, y6108, w6108, z6108, k6108⟩ := q6108
              replace eh6108 := eh6108.symm
              subst eh6108
              cases z6108
              show zL zrx zi _ 204 51 [(0, _), (1, _), (2, _)] [_, _, _] _ _ _
              refine zLcst vr_204_51 rfl (fun p6109 e6109 => ?_)
              cases e6109
              have e2 := k6108
              rw [qc] at e2
              cases e2
              refine zLget vr_204_54 rfl (fun p6110 w6110 e6110 t6110 g6110 => ?_)
              cases e6110
              first | (rw [(st_213_8' hS0)] at g6110; cases g6110) | (rw [hd6] at g6110; cases g6110) | skip
              refine zSiload (m := 1) (k := 2) vr_204_57 rfl rfl rfl (fun x6111 e6111 => ?_)
              cases e6111
              refine zScall vr_204_58 rfl rfl rfl (fun m6112 _ => C_mTw _ _ _ _ _ _ m0 ci0) (fun v6112 h6112 u6112 q6112 => ?_) (fun E6112 h6112 u6112 q6112 => ?_)
              · obtain ⟨eh6112, z6112⟩ := q6112
                replace eh6112 := eh6112.symm
                subst eh6112
                cases z6112
                show zL zrx zi _ 204 61 [(0, _), (1, _), (2, _)] [_] _ _ _
                refine zLiret vr_204_61 rfl (fun x6113 e6113 => ?_)
                cases e6113
                exact ⟨_, _, rfl, t0, Or.inl ⟨⟨ra, rb⟩, rfl, q, qc, rfl⟩⟩
              · obtain ⟨-, z⟩ := q6112
                cases z
            · obtain ⟨-, -, w, z, -⟩ := q6108
              cases z
          · obtain ⟨-, -, w, z, -⟩ := q6103
            cases z
        · cases e6098
          have c6098 := ndc q6098
          refine zSaload (m := 1) (k := 0) vr_204_21 rfl rfl rfl ?_
          refine zSp0 (pc' := 23) (st' := .int (1) :: _) vr_204_22 rfl rfl ?_
          refine zScall vr_204_23 rfl rfl rfl (fun m6116 _ => C_no _ _ _ _ _) (fun v6116 h6116 u6116 q6116 => ?_) (fun E6116 h6116 u6116 q6116 => ?_)
          · obtain ⟨gn6116, z6116⟩ := q6116
            cases z6116
            show zL zrx zi _ 204 26 [(0, _), (1, _), (2, _)] [_] _ _ _
            refine zLiret vr_204_26 rfl (fun x6117 e6117 => ?_)
            cases e6117
            exact ⟨_, _, rfl, t0, Or.inr ⟨fun z => isr_n mc.2.2.1 (Decidable.not_not.mp c6098) z.2, gn6116⟩⟩
          · obtain ⟨-, z⟩ := q6116
            cases z
      · obtain ⟨-, z⟩ := q6097
        cases z
  · obtain ⟨-, z⟩ := q6089
    cases z
abbrev Q_mwJ (el rl lc : Nat) (Fk : Nat → Nat → Int32) (cnt cr cc : Int32) (x y : Int32) (h : List zC) : zK := fun o h2 _ => ∃ (y2 : Int32) (h0 : List zC), o = .inl (some (.int y2)) ∧ hPut h h0 213 0 (.int 0) ∧
  (((iN cc.toInt x ∧ iN 4 y) ∧ h2 = h0 ∧ ∃ q : Nat, gF h0 lc x.toNatClampNeg = some (.ref q) ∧ y2 = jdT (iv h0 237 y.toNatClampNeg) (mT h0 el cnt Fk cr rl q (iv h0 q 6) (-1)) (tieM h0 rl cr q)) ∨ (¬ (iN cc.toInt x ∧ iN 4 y) ∧ hPut h0 h2 213 0 (.int 1)))
theorem C_mwJ (n : Nat) (x y : Int32) (h : List zC) (u : Nat) {el : Nat} {cnt : Int32} {Fk : Nat → Nat → Int32} {cr : Int32} {rl : Nat} (mc : mC h el cnt Fk cr rl) {cc : Int32} {lc : Nat} (nel : ¬ el = 213) (nrl : ¬ rl = 213) (nA : ∀ k, k < cnt.toNatClampNeg → ¬ gF h el k = some (.ref 213)) (nR : ∀ k, k < cr.toNatClampNeg → ¬ gF h rl k = some (.ref 213)) (hcs : gF h 224 2 = some (.int cc)) (hcl : gF h 224 1 = some (.ref lc)) (c0 : 0 ≤ cc.toInt) (nlc : ¬ lc = 213) (hq : ∀ k, k < cc.toNatClampNeg → ∃ q : Nat, gF h lc k = some (.ref q) ∧ ¬ q = 213 ∧ CI h q) (hw : ∀ i, i < 4 → ∃ w : Int32, gF h 237 i = some (.int w)) : zL zrx zi n 203 0 [(0, .ref 213), (1, .int x), (2, .int y)] [] h u (Q_mwJ el rl lc Fk cnt cr cc x y h) := by
  refine zSaload (m := 1) (k := 0) vr_203_0 rfl rfl rfl ?_
  refine zSp0 (pc' := 2) (st' := .int (0) :: _) vr_203_1 rfl rfl ?_
  refine zLput vr_203_2 rfl (fun p6120 k6120 e6120 t6120 g6120 => ?_)
  cases e6120
  have t0 := g6120
  have m0 := mc.thr t0 nel nrl nA nR
  have hS0 := m0.2.2.2.2.2.1
  have f0 : ∀ q k, ¬ (q = 213 ∧ k = 0) → gF k6120 q k = gF h q k := fun q k z => by rw [t0.2.1, if_neg z]
  have hcs0 := (f0 224 2 (by omega)).trans hcs
  have hcl0 := (f0 224 1 (by omega)).trans hcl
  refine zSaload (m := 1) (k := 0) vr_203_5 rfl rfl rfl ?_
  refine zSiload (m := 1) (k := 1) vr_203_6 rfl rfl rfl (fun x6122 e6122 => ?_)
  cases e6122
  refine zScall vr_203_7 rfl rfl rfl (fun m6123 _ => C_isC _ _ _ _ hS0 hcs0) (fun v6123 h6123 u6123 q6123 => ?_) (fun E6123 h6123 u6123 q6123 => ?_)
  · obtain ⟨eh6123, z6123⟩ := q6123
    replace eh6123 := eh6123.symm
    subst eh6123
    cases z6123
    show zL zrx zi _ 203 10 [(0, _), (1, _), (2, _)] [_] _ _ _
    refine zSb1 (f := fun x => decide (x = 0)) (off := 12) (t := 22) vr_203_10 rfl rfl rfl (fun x6124 e6124 q6124 => ?_) (fun x6124 e6124 q6124 => ?_)
    · cases e6124
      have c6124 := of_decide_eq_true q6124
      refine zSaload (m := 1) (k := 0) vr_203_22 rfl rfl rfl ?_
      refine zSp0 (pc' := 24) (st' := .int (1) :: _) vr_203_23 rfl rfl ?_
      refine zScall vr_203_24 rfl rfl rfl (fun m6127 _ => C_no _ _ _ _ _) (fun v6127 h6127 u6127 q6127 => ?_) (fun E6127 h6127 u6127 q6127 => ?_)
      · obtain ⟨gn6127, z6127⟩ := q6127
        cases z6127
        show zL zrx zi _ 203 27 [(0, _), (1, _), (2, _)] [_] _ _ _
        refine zLiret vr_203_27 rfl (fun x6128 e6128 => ?_)
        cases e6128
        exact ⟨_, _, rfl, t0, Or.inr ⟨fun z => isr_n c0 c6124 z.1, gn6127⟩⟩
      · obtain ⟨-, z⟩ := q6127
        cases z
    · cases e6124
      have c6124 := ndc q6124
      have ra := isr_y c0 c6124
      obtain ⟨q, q1, nq, ci⟩ := hq x.toNatClampNeg (by
        obtain ⟨a1, a2⟩ := ra
        show x.toInt.toNat < cc.toInt.toNat
        omega)
      have qc : gF k6120 lc x.toNatClampNeg = some (.ref q) := (f0 lc _ (fun z => nlc z.1)).trans q1
      have ci0 : CI k6120 q := ci.same (fun j _ => f0 q j (fun z => nq z.1))
      have hd6 := ci0.at (j := 6) (by omega)
      refine zSiload (m := 1) (k := 2) vr_203_13 rfl rfl rfl (fun x6129 e6129 => ?_)
      cases e6129
      refine zSp0 (pc' := 15) (st' := .int (0) :: _) vr_203_14 rfl rfl ?_
      refine zSp0 (pc' := 16) (st' := .int (3) :: _) vr_203_15 rfl rfl ?_
      refine zScall vr_203_16 rfl rfl rfl (fun m6132 _ => C_in _ _ _ _ _ _) (fun v6132 h6132 u6132 q6132 => ?_) (fun E6132 h6132 u6132 q6132 => ?_)
      · obtain ⟨eh6132, z6132⟩ := q6132
        replace eh6132 := eh6132.symm
        subst eh6132
        cases z6132
        show zL zrx zi _ 203 19 [(0, _), (1, _), (2, _)] [_] _ _ _
        refine zSb1 (f := fun x => decide (¬ x = 0)) (off := 9) (t := 28) vr_203_19 rfl rfl rfl (fun x6133 e6133 q6133 => ?_) (fun x6133 e6133 q6133 => ?_)
        · cases e6133
          have c6133 := of_decide_eq_true q6133
          have rb : iN 4 y := in_y (x := y) (hi := 3) (m := 4) (by decide) c6133
          obtain ⟨w, hw1⟩ := hw y.toNatClampNeg (n4c rb)
          have hw0 : gF k6120 237 y.toNatClampNeg = some (.int w) := (f0 237 _ (by omega)).trans hw1
          have ew : iv k6120 237 y.toNatClampNeg = w := iv_of hw0
          refine zSaload (m := 1) (k := 0) vr_203_28 rfl rfl rfl ?_
          refine zSaload (m := 1) (k := 0) vr_203_29 rfl rfl rfl ?_
          refine zLget vr_203_30 rfl (fun p6136 w6136 e6136 t6136 g6136 => ?_)
          cases e6136
          first | (rw [(st_213_8' hS0)] at g6136; cases g6136) | skip
          refine zSiload (m := 1) (k := 1) vr_203_33 rfl rfl rfl (fun x6137 e6137 => ?_)
          cases e6137
          refine zScall vr_203_34 rfl rfl rfl (fun m6138 _ => C_get _ _ _ _ _ hcl0 hcs0) (fun v6138 h6138 u6138 q6138 => ?_) (fun E6138 h6138 u6138 q6138 => ?_)
          · obtain ⟨eh6138, y6138, w6138, z6138, k6138⟩ := q6138
            replace eh6138 := eh6138.symm
            subst eh6138
            cases z6138
            show zL zrx zi _ 203 39 [(0, _), (1, _), (2, _)] [_, _] _ _ _
            refine zLcst vr_203_39 rfl (fun p6139 e6139 => ?_)
            cases e6139
            have e1 := k6138
            rw [qc] at e1
            cases e1
            refine zSiload (m := 1) (k := 2) vr_203_42 rfl rfl rfl (fun x6140 e6140 => ?_)
            cases e6140
            refine zScall vr_203_43 rfl rfl rfl (fun m6141 _ => C_mjd _ _ _ _ _ m0 ci0 hd6 hw0) (fun v6141 h6141 u6141 q6141 => ?_) (fun E6141 h6141 u6141 q6141 => ?_)
            · obtain ⟨eh6141, z6141⟩ := q6141
              replace eh6141 := eh6141.symm
              subst eh6141
              cases z6141
              show zL zrx zi _ 203 46 [(0, _), (1, _), (2, _)] [_] _ _ _
              refine zLiret vr_203_46 rfl (fun x6142 e6142 => ?_)
              cases e6142
              exact ⟨_, _, rfl, t0, Or.inl ⟨⟨ra, rb⟩, rfl, q, qc, by rw [ew]⟩⟩
            · obtain ⟨-, z⟩ := q6141
              cases z
          · obtain ⟨-, -, w, z, -⟩ := q6138
            cases z
        · cases e6133
          have c6133 := ndc q6133
          refine zSaload (m := 1) (k := 0) vr_203_22 rfl rfl rfl ?_
          refine zSp0 (pc' := 24) (st' := .int (1) :: _) vr_203_23 rfl rfl ?_
          refine zScall vr_203_24 rfl rfl rfl (fun m6145 _ => C_no _ _ _ _ _) (fun v6145 h6145 u6145 q6145 => ?_) (fun E6145 h6145 u6145 q6145 => ?_)
          · obtain ⟨gn6145, z6145⟩ := q6145
            cases z6145
            show zL zrx zi _ 203 27 [(0, _), (1, _), (2, _)] [_] _ _ _
            refine zLiret vr_203_27 rfl (fun x6146 e6146 => ?_)
            cases e6146
            exact ⟨_, _, rfl, t0, Or.inr ⟨fun z => in_n (x := y) (hi := 3) (m := 4) (by decide) (Decidable.not_not.mp c6133) z.2, gn6145⟩⟩
          · obtain ⟨-, z⟩ := q6145
            cases z
      · obtain ⟨-, z⟩ := q6132
        cases z
  · obtain ⟨-, z⟩ := q6123
    cases z
abbrev Q_mjudge (el rl lc : Nat) (Fk : Nat → Nat → Int32) (cnt cr cc : Int32) (x y : Int32) (h : List zC) : zK := fun o h2 _ => ∃ (y2 : Int32) (h0 : List zC), o = .inl (some (.int y2)) ∧ hPut h h0 213 0 (.int 0) ∧
  (((iN cc.toInt x ∧ iN 4 y) ∧ ∃ q : Nat, gF h0 lc x.toNatClampNeg = some (.ref q) ∧ ((iv h0 q 7 = -1 ∧ y2 = jdT (iv h0 237 y.toNatClampNeg) (mT h0 el cnt Fk cr rl q (iv h0 q 6) (-1)) (tieM h0 rl cr q) ∧ ∃ h1 : List zC, hPut h0 h1 q 8 (.int (jdT (iv h0 237 y.toNatClampNeg) (mT h0 el cnt Fk cr rl q (iv h0 q 6) (-1)) (tieM h0 rl cr q))) ∧ hPut h1 h2 q 7 (.int y)) ∨ (¬ iv h0 q 7 = -1 ∧ hPut h0 h2 213 0 (.int 2)))) ∨ (¬ (iN cc.toInt x ∧ iN 4 y) ∧ hPut h0 h2 213 0 (.int 1)))
theorem C_mjudge (n : Nat) (x y : Int32) (h : List zC) (u : Nat) {el : Nat} {cnt : Int32} {Fk : Nat → Nat → Int32} {cr : Int32} {rl : Nat} (mc : mC h el cnt Fk cr rl) {cc : Int32} {lc : Nat} (nel : ¬ el = 213) (nrl : ¬ rl = 213) (nA : ∀ k, k < cnt.toNatClampNeg → ¬ gF h el k = some (.ref 213)) (nR : ∀ k, k < cr.toNatClampNeg → ¬ gF h rl k = some (.ref 213)) (hcs : gF h 224 2 = some (.int cc)) (hcl : gF h 224 1 = some (.ref lc)) (c0 : 0 ≤ cc.toInt) (nlc : ¬ lc = 213) (hq : ∀ k, k < cc.toNatClampNeg → ∃ q : Nat, gF h lc k = some (.ref q) ∧ ¬ q = 213 ∧ CI h q) (hw : ∀ i, i < 4 → ∃ w : Int32, gF h 237 i = some (.int w)) : zL zrx zi n 174 0 [(0, .ref 213), (1, .int x), (2, .int y)] [] h u (Q_mjudge el rl lc Fk cnt cr cc x y h) := by
  refine zSaload (m := 1) (k := 0) vr_174_0 rfl rfl rfl ?_
  refine zSp0 (pc' := 2) (st' := .int (0) :: _) vr_174_1 rfl rfl ?_
  refine zLput vr_174_2 rfl (fun p6149 k6149 e6149 t6149 g6149 => ?_)
  cases e6149
  have t0 := g6149
  have m0 := mc.thr t0 nel nrl nA nR
  have hS0 := m0.2.2.2.2.2.1
  have f0 : ∀ q k, ¬ (q = 213 ∧ k = 0) → gF k6149 q k = gF h q k := fun q k z => by rw [t0.2.1, if_neg z]
  have hcs0 := (f0 224 2 (by omega)).trans hcs
  have hcl0 := (f0 224 1 (by omega)).trans hcl
  refine zSaload (m := 1) (k := 0) vr_174_5 rfl rfl rfl ?_
  refine zSiload (m := 1) (k := 1) vr_174_6 rfl rfl rfl (fun x6151 e6151 => ?_)
  cases e6151
  refine zScall vr_174_7 rfl rfl rfl (fun m6152 _ => C_isC _ _ _ _ hS0 hcs0) (fun v6152 h6152 u6152 q6152 => ?_) (fun E6152 h6152 u6152 q6152 => ?_)
  · obtain ⟨eh6152, z6152⟩ := q6152
    replace eh6152 := eh6152.symm
    subst eh6152
    cases z6152
    show zL zrx zi _ 174 10 [(0, _), (1, _), (2, _)] [_] _ _ _
    refine zSb1 (f := fun x => decide (x = 0)) (off := 12) (t := 22) vr_174_10 rfl rfl rfl (fun x6153 e6153 q6153 => ?_) (fun x6153 e6153 q6153 => ?_)
    · cases e6153
      have c6153 := of_decide_eq_true q6153
      refine zSaload (m := 1) (k := 0) vr_174_22 rfl rfl rfl ?_
      refine zSp0 (pc' := 24) (st' := .int (1) :: _) vr_174_23 rfl rfl ?_
      refine zScall vr_174_24 rfl rfl rfl (fun m6156 _ => C_no _ _ _ _ _) (fun v6156 h6156 u6156 q6156 => ?_) (fun E6156 h6156 u6156 q6156 => ?_)
      · obtain ⟨gn6156, z6156⟩ := q6156
        cases z6156
        show zL zrx zi _ 174 27 [(0, _), (1, _), (2, _)] [_] _ _ _
        refine zLiret vr_174_27 rfl (fun x6157 e6157 => ?_)
        cases e6157
        exact ⟨_, _, rfl, t0, Or.inr ⟨fun z => isr_n c0 c6153 z.1, gn6156⟩⟩
      · obtain ⟨-, z⟩ := q6156
        cases z
    · cases e6153
      have c6153 := ndc q6153
      have ra := isr_y c0 c6153
      obtain ⟨q, q1, nq, ci⟩ := hq x.toNatClampNeg (by
        obtain ⟨a1, a2⟩ := ra
        show x.toInt.toNat < cc.toInt.toNat
        omega)
      have qc : gF k6149 lc x.toNatClampNeg = some (.ref q) := (f0 lc _ (fun z => nlc z.1)).trans q1
      have ci0 : CI k6149 q := ci.same (fun j _ => f0 q j (fun z => nq z.1))
      have hd6 := ci0.at (j := 6) (by omega)
      refine zSiload (m := 1) (k := 2) vr_174_13 rfl rfl rfl (fun x6158 e6158 => ?_)
      cases e6158
      refine zSp0 (pc' := 15) (st' := .int (0) :: _) vr_174_14 rfl rfl ?_
      refine zSp0 (pc' := 16) (st' := .int (3) :: _) vr_174_15 rfl rfl ?_
      refine zScall vr_174_16 rfl rfl rfl (fun m6161 _ => C_in _ _ _ _ _ _) (fun v6161 h6161 u6161 q6161 => ?_) (fun E6161 h6161 u6161 q6161 => ?_)
      · obtain ⟨eh6161, z6161⟩ := q6161
        replace eh6161 := eh6161.symm
        subst eh6161
        cases z6161
        show zL zrx zi _ 174 19 [(0, _), (1, _), (2, _)] [_] _ _ _
        refine zSb1 (f := fun x => decide (¬ x = 0)) (off := 9) (t := 28) vr_174_19 rfl rfl rfl (fun x6162 e6162 q6162 => ?_) (fun x6162 e6162 q6162 => ?_)
        · cases e6162
          have c6162 := of_decide_eq_true q6162
          have rb : iN 4 y := in_y (x := y) (hi := 3) (m := 4) (by decide) c6162
          obtain ⟨w, hw1⟩ := hw y.toNatClampNeg (n4c rb)
          have hw0 : gF k6149 237 y.toNatClampNeg = some (.int w) := (f0 237 _ (by omega)).trans hw1
          have ew : iv k6149 237 y.toNatClampNeg = w := iv_of hw0
          refine zSaload (m := 1) (k := 0) vr_174_28 rfl rfl rfl ?_
          refine zLget vr_174_29 rfl (fun p6164 w6164 e6164 t6164 g6164 => ?_)
          cases e6164
          first | (rw [(st_213_8' hS0)] at g6164; cases g6164) | (rw [f8] at g6164; cases g6164) | skip
          refine zSiload (m := 1) (k := 1) vr_174_32 rfl rfl rfl (fun x6165 e6165 => ?_)
          cases e6165
          refine zScall vr_174_33 rfl rfl rfl (fun m6166 _ => C_get _ _ _ _ _ hcl0 hcs0) (fun v6166 h6166 u6166 q6166 => ?_) (fun E6166 h6166 u6166 q6166 => ?_)
          · obtain ⟨eh6166, y6166, w6166, z6166, k6166⟩ := q6166
            replace eh6166 := eh6166.symm
            subst eh6166
            cases z6166
            show zL zrx zi _ 174 38 [(0, _), (1, _), (2, _)] [_] _ _ _
            refine zLcst vr_174_38 rfl (fun p6167 e6167 => ?_)
            cases e6167
            have e1 := k6166
            rw [qc] at e1
            cases e1
            refine zSastore (m := 1) (k := 3) vr_174_41 rfl rfl ?_
            show zL zrx zi _ 174 42 [(3, _), (0, _), (1, _), (2, _)] [] _ _ _
            refine zSaload (m := 1) (k := 3) vr_174_42 rfl rfl rfl ?_
            refine zLget vr_174_43 rfl (fun p6170 w6170 e6170 t6170 g6170 => ?_)
            cases e6170
            first | (rw [(st_213_8' hS0)] at g6170; cases g6170) | (rw [f8] at g6170; cases g6170) | skip
            refine zSp0 (pc' := 47) (st' := .int (-1) :: _) vr_174_46 rfl rfl ?_
            refine zSb2 (f := fun x y => decide (x = y)) (off := 9) (t := 56) vr_174_47 rfl rfl rfl (fun x6172 y6172 e6172 f6172 q6172 => ?_) (fun x6172 y6172 e6172 f6172 q6172 => ?_)
            · cases e6172
              cases f6172
              have c6172 := of_decide_eq_true q6172
              refine zSaload (m := 1) (k := 3) vr_174_56 rfl rfl rfl ?_
              refine zSaload (m := 1) (k := 0) vr_174_57 rfl rfl rfl ?_
              refine zSaload (m := 1) (k := 3) vr_174_58 rfl rfl rfl ?_
              refine zSiload (m := 1) (k := 2) vr_174_59 rfl rfl rfl (fun x6176 e6176 => ?_)
              cases e6176
              refine zScall vr_174_60 rfl rfl rfl (fun m6177 _ => C_mjd _ _ _ _ _ m0 ci0 hd6 hw0) (fun v6177 h6177 u6177 q6177 => ?_) (fun E6177 h6177 u6177 q6177 => ?_)
              · obtain ⟨eh6177, z6177⟩ := q6177
                replace eh6177 := eh6177.symm
                subst eh6177
                cases z6177
                show zL zrx zi _ 174 63 [(3, _), (0, _), (1, _), (2, _)] [_, _] _ _ _
                refine zLput vr_174_63 rfl (fun p6178 k6178 e6178 t6178 g6178 => ?_)
                cases e6178
                refine zSaload (m := 1) (k := 3) vr_174_66 rfl rfl rfl ?_
                refine zSiload (m := 1) (k := 2) vr_174_67 rfl rfl rfl (fun x6180 e6180 => ?_)
                cases e6180
                refine zLput vr_174_68 rfl (fun p6181 k6181 e6181 t6181 g6181 => ?_)
                cases e6181
                have f8 : gF k6181 q 8 = _ := (g6181.2.1 q 8).trans ((if_neg (by omega)).trans ((g6178.2.1 q 8).trans (if_pos ⟨rfl, rfl⟩)))
                refine zSaload (m := 1) (k := 3) vr_174_71 rfl rfl rfl ?_
                refine zLget vr_174_72 rfl (fun p6183 w6183 e6183 t6183 g6183 => ?_)
                cases e6183
                first | (rw [(st_213_8' hS0)] at g6183; cases g6183) | (rw [f8] at g6183; cases g6183) | skip
                refine zLiret vr_174_75 rfl (fun x6184 e6184 => ?_)
                cases e6184
                have g63 := g6178
                rw [← ew] at g63
                exact ⟨_, _, rfl, t0, Or.inl ⟨⟨ra, rb⟩, q, qc, Or.inl ⟨(iv_of g6170).trans c6172, by rw [ew], _, g63, g6181⟩⟩⟩
              · obtain ⟨-, z⟩ := q6177
                cases z
            · cases e6172
              cases f6172
              have c6172 := ndc q6172
              refine zSaload (m := 1) (k := 0) vr_174_50 rfl rfl rfl ?_
              refine zSp0 (pc' := 52) (st' := .int (2) :: _) vr_174_51 rfl rfl ?_
              refine zScall vr_174_52 rfl rfl rfl (fun m6187 _ => C_no _ _ _ _ _) (fun v6187 h6187 u6187 q6187 => ?_) (fun E6187 h6187 u6187 q6187 => ?_)
              · obtain ⟨gn6187, z6187⟩ := q6187
                cases z6187
                show zL zrx zi _ 174 55 [(3, _), (0, _), (1, _), (2, _)] [_] _ _ _
                refine zLiret vr_174_55 rfl (fun x6188 e6188 => ?_)
                cases e6188
                exact ⟨_, _, rfl, t0, Or.inl ⟨⟨ra, rb⟩, q, qc, Or.inr ⟨fun z => c6172 ((iv_of g6170).symm.trans z), gn6187⟩⟩⟩
              · obtain ⟨-, z⟩ := q6187
                cases z
          · obtain ⟨-, -, w, z, -⟩ := q6166
            cases z
        · cases e6162
          have c6162 := ndc q6162
          refine zSaload (m := 1) (k := 0) vr_174_22 rfl rfl rfl ?_
          refine zSp0 (pc' := 24) (st' := .int (1) :: _) vr_174_23 rfl rfl ?_
          refine zScall vr_174_24 rfl rfl rfl (fun m6191 _ => C_no _ _ _ _ _) (fun v6191 h6191 u6191 q6191 => ?_) (fun E6191 h6191 u6191 q6191 => ?_)
          · obtain ⟨gn6191, z6191⟩ := q6191
            cases z6191
            show zL zrx zi _ 174 27 [(0, _), (1, _), (2, _)] [_] _ _ _
            refine zLiret vr_174_27 rfl (fun x6192 e6192 => ?_)
            cases e6192
            exact ⟨_, _, rfl, t0, Or.inr ⟨fun z => in_n (x := y) (hi := 3) (m := 4) (by decide) (Decidable.not_not.mp c6162) z.2, gn6191⟩⟩
          · obtain ⟨-, z⟩ := q6191
            cases z
      · obtain ⟨-, z⟩ := q6161
        cases z
  · obtain ⟨-, z⟩ := q6152
    cases z
abbrev Q_mappeal (el rl lc : Nat) (Fk : Nat → Nat → Int32) (cnt cr cc : Int32) (rv : Int32) (x : Int32) (h : List zC) : zK := fun o h2 _ => ∃ (y2 : Int32) (h0 : List zC), o = .inl (some (.int y2)) ∧ hPut h h0 213 0 (.int 0) ∧
  ((iN cc.toInt x ∧ ∃ q : Nat, gF h0 lc x.toNatClampNeg = some (.ref q) ∧ ((¬ iv h0 q 7 = -1 ∧ ∃ h1 : List zC, hPut h0 h1 213 2 (.int (rv + if iv h0 q 8 = mT h0 el cnt Fk cr rl q (iv h0 q 6) (-1) then 0 else 1)) ∧ y2 = mT h1 el cnt Fk cr rl q (iv h0 q 6) (-1) ∧ hPut h1 h2 q 8 (.int y2)) ∨ (iv h0 q 7 = -1 ∧ hPut h0 h2 213 0 (.int 2)))) ∨ (¬ (iN cc.toInt x) ∧ hPut h0 h2 213 0 (.int 1)))
theorem C_mappeal (n : Nat) (x : Int32) (h : List zC) (u : Nat) {el : Nat} {cnt : Int32} {Fk : Nat → Nat → Int32} {cr : Int32} {rl : Nat} (mc : mC h el cnt Fk cr rl) {cc : Int32} {lc : Nat} (nel : ¬ el = 213) (nrl : ¬ rl = 213) (nA : ∀ k, k < cnt.toNatClampNeg → ¬ gF h el k = some (.ref 213)) (nR : ∀ k, k < cr.toNatClampNeg → ¬ gF h rl k = some (.ref 213)) (hcs : gF h 224 2 = some (.int cc)) (hcl : gF h 224 1 = some (.ref lc)) (c0 : 0 ≤ cc.toInt) (nlc : ¬ lc = 213) (hq : ∀ k, k < cc.toNatClampNeg → ∃ q : Nat, gF h lc k = some (.ref q) ∧ ¬ q = 213 ∧ CI h q) {rv : Int32} (hr2 : gF h 213 2 = some (.int rv)) (hj : ∀ k q, k < cc.toNatClampNeg → gF h lc k = some (.ref q) → ∃ z : Int32, gF h q 7 = some (.int z)) : zL zrx zi n 175 0 [(0, .ref 213), (1, .int x)] [] h u (Q_mappeal el rl lc Fk cnt cr cc rv x h) := by
  refine zSaload (m := 1) (k := 0) vr_175_0 rfl rfl rfl ?_
  refine zSp0 (pc' := 2) (st' := .int (0) :: _) vr_175_1 rfl rfl ?_
  refine zLput vr_175_2 rfl (fun p6195 k6195 e6195 t6195 g6195 => ?_)
  cases e6195
  have t0 := g6195
  have m0 := mc.thr t0 nel nrl nA nR
  have hS0 := m0.2.2.2.2.2.1
  have f0 : ∀ q k, ¬ (q = 213 ∧ k = 0) → gF k6195 q k = gF h q k := fun q k z => by rw [t0.2.1, if_neg z]
  have hcs0 := (f0 224 2 (by omega)).trans hcs
  have hcl0 := (f0 224 1 (by omega)).trans hcl
  have hrv := (f0 213 2 (by omega)).trans hr2
  refine zSaload (m := 1) (k := 0) vr_175_5 rfl rfl rfl ?_
  refine zSiload (m := 1) (k := 1) vr_175_6 rfl rfl rfl (fun x6197 e6197 => ?_)
  cases e6197
  refine zScall vr_175_7 rfl rfl rfl (fun m6198 _ => C_isC _ _ _ _ hS0 hcs0) (fun v6198 h6198 u6198 q6198 => ?_) (fun E6198 h6198 u6198 q6198 => ?_)
  · obtain ⟨eh6198, z6198⟩ := q6198
    replace eh6198 := eh6198.symm
    subst eh6198
    cases z6198
    show zL zrx zi _ 175 10 [(0, _), (1, _)] [_] _ _ _
    refine zSb1 (f := fun x => decide (¬ x = 0)) (off := 9) (t := 19) vr_175_10 rfl rfl rfl (fun x6199 e6199 q6199 => ?_) (fun x6199 e6199 q6199 => ?_)
    · cases e6199
      have c6199 := of_decide_eq_true q6199
      have ra := isr_y c0 c6199
      obtain ⟨q, q1, nq, ci⟩ := hq x.toNatClampNeg (by
        obtain ⟨a1, a2⟩ := ra
        show x.toInt.toNat < cc.toInt.toNat
        omega)
      have qc : gF k6195 lc x.toNatClampNeg = some (.ref q) := (f0 lc _ (fun z => nlc z.1)).trans q1
      have ci0 : CI k6195 q := ci.same (fun j _ => f0 q j (fun z => nq z.1))
      have hd6 := ci0.at (j := 6) (by omega)
      refine zSaload (m := 1) (k := 0) vr_175_19 rfl rfl rfl ?_
      refine zLget vr_175_20 rfl (fun p6201 w6201 e6201 t6201 g6201 => ?_)
      cases e6201
      first | (rw [(st_213_8' hS0)] at g6201; cases g6201) | (rw [f8] at g6201; cases g6201) | (rw [hrv] at g6201; cases g6201) | skip
      refine zSiload (m := 1) (k := 1) vr_175_23 rfl rfl rfl (fun x6202 e6202 => ?_)
      cases e6202
      refine zScall vr_175_24 rfl rfl rfl (fun m6203 _ => C_get _ _ _ _ _ hcl0 hcs0) (fun v6203 h6203 u6203 q6203 => ?_) (fun E6203 h6203 u6203 q6203 => ?_)
      · obtain ⟨eh6203, y6203, w6203, z6203, k6203⟩ := q6203
        replace eh6203 := eh6203.symm
        subst eh6203
        cases z6203
        show zL zrx zi _ 175 29 [(0, _), (1, _)] [_] _ _ _
        refine zLcst vr_175_29 rfl (fun p6204 e6204 => ?_)
        cases e6204
        have e1 := k6203
        rw [qc] at e1
        cases e1
        refine zSastore (m := 1) (k := 2) vr_175_32 rfl rfl ?_
        show zL zrx zi _ 175 33 [(2, _), (0, _), (1, _)] [] _ _ _
        refine zSaload (m := 1) (k := 2) vr_175_33 rfl rfl rfl ?_
        refine zLget vr_175_34 rfl (fun p6207 w6207 e6207 t6207 g6207 => ?_)
        cases e6207
        first | (rw [(st_213_8' hS0)] at g6207; cases g6207) | (rw [f8] at g6207; cases g6207) | (rw [hrv] at g6207; cases g6207) | skip
        refine zSp0 (pc' := 38) (st' := .int (-1) :: _) vr_175_37 rfl rfl ?_
        refine zSb2 (f := fun x y => decide (¬ x = y)) (off := 9) (t := 47) vr_175_38 rfl rfl rfl (fun x6209 y6209 e6209 f6209 q6209 => ?_) (fun x6209 y6209 e6209 f6209 q6209 => ?_)
        · cases e6209
          cases f6209
          have c6209 := of_decide_eq_true q6209
          refine zSaload (m := 1) (k := 0) vr_175_47 rfl rfl rfl ?_
          refine zSdup vr_175_48 rfl ?_
          refine zLget vr_175_49 rfl (fun p6212 w6212 e6212 t6212 g6212 => ?_)
          cases e6212
          first | (rw [(st_213_8' hS0)] at g6212; cases g6212) | (rw [f8] at g6212; cases g6212) | (rw [hrv] at g6212; cases g6212) | skip
          refine zSaload (m := 1) (k := 2) vr_175_52 rfl rfl rfl ?_
          refine zLget vr_175_53 rfl (fun p6214 w6214 e6214 t6214 g6214 => ?_)
          cases e6214
          first | (rw [(st_213_8' hS0)] at g6214; cases g6214) | (rw [f8] at g6214; cases g6214) | (rw [hrv] at g6214; cases g6214) | skip
          refine zSaload (m := 1) (k := 0) vr_175_56 rfl rfl rfl ?_
          refine zSaload (m := 1) (k := 2) vr_175_57 rfl rfl rfl ?_
          refine zScall vr_175_58 rfl rfl rfl (fun m6217 _ => C_mTc _ _ _ _ m0 ci0 hd6) (fun v6217 h6217 u6217 q6217 => ?_) (fun E6217 h6217 u6217 q6217 => ?_)
          · obtain ⟨eh6217, z6217⟩ := q6217
            replace eh6217 := eh6217.symm
            subst eh6217
            cases z6217
            show zL zrx zi _ 175 61 [(2, _), (0, _), (1, _)] [_, _, _, _] _ _ _
            refine zSb2 (f := fun x y => decide (¬ x = y)) (off := 7) (t := 68) vr_175_61 rfl rfl rfl (fun x6218 y6218 e6218 f6218 q6218 => ?_) (fun x6218 y6218 e6218 f6218 q6218 => ?_)
            · cases e6218
              cases f6218
              have c6218 := of_decide_eq_true q6218
              refine zSp0 (pc' := 69) (st' := .int (1) :: _) vr_175_68 rfl rfl ?_
              refine zS2 (f := fun x y => .int (x + y)) vr_175_69 rfl rfl (fun x6220 y6220 e6220 f6220 => ?_)
              cases e6220
              cases f6220
              refine zLput vr_175_70 rfl (fun p6221 k6221 e6221 t6221 g6221 => ?_)
              cases e6221
              have fq : ∀ i j, ¬ (i = 213 ∧ j = 2) → gF k6221 i j = gF k6195 i j := fun i j n => by rw [g6221.2.1, if_neg n]
              have m1 := m0.rev g6221 nel nrl (fun k hk z => nA k hk ((f0 el k (fun w => nel w.1)).symm.trans z)) (fun k hk z => nR k hk ((f0 rl k (fun w => nrl w.1)).symm.trans z))
              have ci1 : CI k6221 q := ci0.same (fun j _ => fq q j (fun z => nq z.1))
              have hd7 : gF k6221 q 6 = some (.int (iv k6195 q 6)) := (fq q 6 (fun z => nq z.1)).trans hd6
              refine zSaload (m := 1) (k := 2) vr_175_73 rfl rfl rfl ?_
              refine zSaload (m := 1) (k := 0) vr_175_74 rfl rfl rfl ?_
              refine zSaload (m := 1) (k := 2) vr_175_75 rfl rfl rfl ?_
              refine zScall vr_175_76 rfl rfl rfl (fun m6225 _ => C_mTc _ _ _ _ m1 ci1 hd7) (fun v6225 h6225 u6225 q6225 => ?_) (fun E6225 h6225 u6225 q6225 => ?_)
              · obtain ⟨eh6225, z6225⟩ := q6225
                replace eh6225 := eh6225.symm
                subst eh6225
                cases z6225
                show zL zrx zi _ 175 79 [(2, _), (0, _), (1, _)] [_, _] _ _ _
                refine zLput vr_175_79 rfl (fun p6226 k6226 e6226 t6226 g6226 => ?_)
                cases e6226
                have f8 : gF k6226 q 8 = _ := (g6226.2.1 q 8).trans (if_pos ⟨rfl, rfl⟩)
                refine zSaload (m := 1) (k := 2) vr_175_82 rfl rfl rfl ?_
                refine zLget vr_175_83 rfl (fun p6228 w6228 e6228 t6228 g6228 => ?_)
                cases e6228
                first | (rw [(st_213_8' hS0)] at g6228; cases g6228) | (rw [f8] at g6228; cases g6228) | (rw [hrv] at g6228; cases g6228) | skip
                refine zLiret vr_175_86 rfl (fun x6229 e6229 => ?_)
                cases e6229
                have g70 := g6221
                have e53 := iv_of g6214
                exact ⟨_, _, rfl, t0, Or.inl ⟨ra, q, qc, Or.inl ⟨fun z => c6209 ((iv_of g6207).symm.trans z), _, by rw [e53, if_neg c6218]; exact g70, rfl, g6226⟩⟩⟩
              · obtain ⟨-, z⟩ := q6225
                cases z
            · cases e6218
              cases f6218
              have c6218 := ndc q6218
              refine zSp0 (pc' := 65) (st' := .int (0) :: _) vr_175_64 rfl rfl ?_
              refine zSgo (t := 69) vr_175_65 rfl rfl ?_
              refine zS2 (f := fun x y => .int (x + y)) vr_175_69 rfl rfl (fun x6232 y6232 e6232 f6232 => ?_)
              cases e6232
              cases f6232
              refine zLput vr_175_70 rfl (fun p6233 k6233 e6233 t6233 g6233 => ?_)
              cases e6233
              have fq : ∀ i j, ¬ (i = 213 ∧ j = 2) → gF k6233 i j = gF k6195 i j := fun i j n => by rw [g6233.2.1, if_neg n]
              have m1 := m0.rev g6233 nel nrl (fun k hk z => nA k hk ((f0 el k (fun w => nel w.1)).symm.trans z)) (fun k hk z => nR k hk ((f0 rl k (fun w => nrl w.1)).symm.trans z))
              have ci1 : CI k6233 q := ci0.same (fun j _ => fq q j (fun z => nq z.1))
              have hd7 : gF k6233 q 6 = some (.int (iv k6195 q 6)) := (fq q 6 (fun z => nq z.1)).trans hd6
              refine zSaload (m := 1) (k := 2) vr_175_73 rfl rfl rfl ?_
              refine zSaload (m := 1) (k := 0) vr_175_74 rfl rfl rfl ?_
              refine zSaload (m := 1) (k := 2) vr_175_75 rfl rfl rfl ?_
              refine zScall vr_175_76 rfl rfl rfl (fun m6237 _ => C_mTc _ _ _ _ m1 ci1 hd7) (fun v6237 h6237 u6237 q6237 => ?_) (fun E6237 h6237 u6237 q6237 => ?_)
              · obtain ⟨eh6237, z6237⟩ := q6237
                replace eh6237 := eh6237.symm
                subst eh6237
                cases z6237
                show zL zrx zi _ 175 79 [(2, _), (0, _), (1, _)] [_, _] _ _ _
                refine zLput vr_175_79 rfl (fun p6238 k6238 e6238 t6238 g6238 => ?_)
                cases e6238
                have f8 : gF k6238 q 8 = _ := (g6238.2.1 q 8).trans (if_pos ⟨rfl, rfl⟩)
                refine zSaload (m := 1) (k := 2) vr_175_82 rfl rfl rfl ?_
                refine zLget vr_175_83 rfl (fun p6240 w6240 e6240 t6240 g6240 => ?_)
                cases e6240
                first | (rw [(st_213_8' hS0)] at g6240; cases g6240) | (rw [f8] at g6240; cases g6240) | (rw [hrv] at g6240; cases g6240) | skip
                refine zLiret vr_175_86 rfl (fun x6241 e6241 => ?_)
                cases e6241
                have g70 := g6233
                have e53 := iv_of g6214
                exact ⟨_, _, rfl, t0, Or.inl ⟨ra, q, qc, Or.inl ⟨fun z => c6209 ((iv_of g6207).symm.trans z), _, by rw [e53, if_pos (Decidable.not_not.mp c6218)]; exact g70, rfl, g6238⟩⟩⟩
              · obtain ⟨-, z⟩ := q6237
                cases z
          · obtain ⟨-, z⟩ := q6217
            cases z
        · cases e6209
          cases f6209
          have c6209 := ndc q6209
          refine zSaload (m := 1) (k := 0) vr_175_41 rfl rfl rfl ?_
          refine zSp0 (pc' := 43) (st' := .int (2) :: _) vr_175_42 rfl rfl ?_
          refine zScall vr_175_43 rfl rfl rfl (fun m6244 _ => C_no _ _ _ _ _) (fun v6244 h6244 u6244 q6244 => ?_) (fun E6244 h6244 u6244 q6244 => ?_)
          · obtain ⟨gn6244, z6244⟩ := q6244
            cases z6244
            show zL zrx zi _ 175 46 [(2, _), (0, _), (1, _)] [_] _ _ _
            refine zLiret vr_175_46 rfl (fun x6245 e6245 => ?_)
            cases e6245
            exact ⟨_, _, rfl, t0, Or.inl ⟨ra, q, qc, Or.inr ⟨(iv_of g6207).trans (Decidable.not_not.mp c6209), gn6244⟩⟩⟩
          · obtain ⟨-, z⟩ := q6244
            cases z
      · obtain ⟨-, -, w, z, -⟩ := q6203
        cases z
    · cases e6199
      have c6199 := ndc q6199
      refine zSaload (m := 1) (k := 0) vr_175_13 rfl rfl rfl ?_
      refine zSp0 (pc' := 15) (st' := .int (1) :: _) vr_175_14 rfl rfl ?_
      refine zScall vr_175_15 rfl rfl rfl (fun m6248 _ => C_no _ _ _ _ _) (fun v6248 h6248 u6248 q6248 => ?_) (fun E6248 h6248 u6248 q6248 => ?_)
      · obtain ⟨gn6248, z6248⟩ := q6248
        cases z6248
        show zL zrx zi _ 175 18 [(0, _), (1, _)] [_] _ _ _
        refine zLiret vr_175_18 rfl (fun x6249 e6249 => ?_)
        cases e6249
        exact ⟨_, _, rfl, t0, Or.inr ⟨fun z => isr_n c0 (Decidable.not_not.mp c6199) z, gn6248⟩⟩
      · obtain ⟨-, z⟩ := q6248
        cases z
  · obtain ⟨-, z⟩ := q6198
    cases z
theorem C_tie (n : Nat) (m s : Int32) (h : List zC) (u : Nat) (hS : Stc h) : zL zrx zi n 59 0 [(0, .ref 16), (1, .int m), (2, .int s)] [] h u (fun o h2 _ => match o with
  | .inl v => ((iN 4 m) ∧ rI 0 2 s) ∧ ∃ y : Int32, v = some (.int y) ∧ hPut h h2 30 m.toNatClampNeg (.int s) ∧ y = iv h 30 m.toNatClampNeg
  | .inr E => hExt h h2 ∧ ((E = 0 ∧ ¬ (iN 4 m)) ∨ (E = 1 ∧ (iN 4 m) ∧ ¬ rI 0 2 s))) := by
  refine zSiload (m := 1) (k := 1) vr_59_0 rfl rfl rfl (fun x6250 e6250 => ?_)
  cases e6250
  refine zSp0 (pc' := 2) (st' := .int (4) :: _) vr_59_1 rfl rfl ?_
  refine zScall vr_59_2 rfl rfl rfl (fun m6252 _ => C_num6 _ _ _ _ (m := 4) (by rfl)) (fun v6252 h6252 u6252 q6252 => ?_) (fun E6252 h6252 u6252 q6252 => ?_)
  · obtain ⟨eh6252, rfl, r1⟩ := q6252
    replace eh6252 := eh6252.symm
    subst eh6252
    show zL zrx zi _ 59 5 [(0, _), (1, _), (2, _)] [] _ _ _
    refine zSiload (m := 1) (k := 2) vr_59_5 rfl rfl rfl (fun x6253 e6253 => ?_)
    cases e6253
    refine zSp0 (pc' := 7) (st' := .int (0) :: _) vr_59_6 rfl rfl ?_
    refine zSp0 (pc' := 8) (st' := .int (2) :: _) vr_59_7 rfl rfl ?_
    refine zScall vr_59_8 rfl rfl rfl (fun m6256 _ => C_val _ _ _ _ _ _) (fun v6256 h6256 u6256 q6256 => ?_) (fun E6256 h6256 u6256 q6256 => ?_)
    · obtain ⟨eh6256, rfl, r3⟩ := q6256
      replace eh6256 := eh6256.symm
      subst eh6256
      show zL zrx zi _ 59 11 [(0, _), (1, _), (2, _)] [] _ _ _
      refine zSaload (m := 1) (k := 0) vr_59_11 rfl rfl rfl ?_
      refine zLget vr_59_12 rfl (fun p6258 w6258 e6258 t6258 g6258 => ?_)
      cases e6258
      first | (rw [(st_16_9 hS)] at g6258; cases g6258) | (rw [(st_28_1' hS)] at g6258; cases g6258) | skip
      refine zLget vr_59_15 rfl (fun p6259 w6259 e6259 t6259 g6259 => ?_)
      cases e6259
      first | (rw [(st_16_9 hS)] at g6259; cases g6259) | (rw [(st_28_1' hS)] at g6259; cases g6259) | skip
      refine zSiload (m := 1) (k := 1) vr_59_18 rfl rfl rfl (fun x6260 e6260 => ?_)
      cases e6260
      refine zLiald vr_59_19 rfl (fun p6261 x6261 w6261 e6261 f6261 c6261 t6261 g6261 => ?_)
      cases e6261
      cases f6261
      first | (rw [(st_16_9 hS)] at g6261; cases g6261) | (rw [(st_28_1' hS)] at g6261; cases g6261) | skip
      refine zSistore (m := 1) (k := 3) vr_59_20 rfl rfl (fun x6262 e6262 => ?_)
      cases e6262
      show zL zrx zi _ 59 21 [(3, _), (0, _), (1, _), (2, _)] [] _ _ _
      refine zSaload (m := 1) (k := 0) vr_59_21 rfl rfl rfl ?_
      refine zLget vr_59_22 rfl (fun p6264 w6264 e6264 t6264 g6264 => ?_)
      cases e6264
      first | (rw [(st_16_9 hS)] at g6264; cases g6264) | (rw [(st_28_1' hS)] at g6264; cases g6264) | skip
      refine zLget vr_59_25 rfl (fun p6265 w6265 e6265 t6265 g6265 => ?_)
      cases e6265
      first | (rw [(st_16_9 hS)] at g6265; cases g6265) | (rw [(st_28_1' hS)] at g6265; cases g6265) | skip
      refine zSiload (m := 1) (k := 1) vr_59_28 rfl rfl rfl (fun x6266 e6266 => ?_)
      cases e6266
      refine zSiload (m := 1) (k := 2) vr_59_29 rfl rfl rfl (fun x6267 e6267 => ?_)
      cases e6267
      refine zLiast vr_59_30 rfl (fun p6268 x6268 z6268 k6268 e6268 f6268 d6268 c6268 t6268 g6268 => ?_)
      cases e6268
      cases f6268
      cases d6268
      refine zSiload (m := 1) (k := 3) vr_59_31 rfl rfl rfl (fun x6269 e6269 => ?_)
      cases e6269
      refine zLiret vr_59_32 rfl (fun x6270 e6270 => ?_)
      cases e6270
      exact ⟨⟨r1, r3⟩, _, rfl, g6268, (iv_of g6261).symm⟩
    · obtain ⟨rfl, q1, q2⟩ := q6256
      rw [zCat_no vh_59_8_1]
      exact ⟨q2, Or.inr ⟨rfl, r1, q1⟩⟩
  · obtain ⟨rfl, q1, q2⟩ := q6252
    rw [zCat_no vh_59_2_0]
    exact ⟨q2, Or.inl ⟨rfl, q1⟩⟩
abbrev Q_Ltie (m s : Int32) (h : List zC) : zK := fun o h2 _ => ∃ k : Int32, o = .inl (some (.int k)) ∧
  ((k = 0 ∧ ((iN 4 m) ∧ rI 0 2 s) ∧ ∃ (h1 : List zC) (y : Int32), hPut h h1 30 m.toNatClampNeg (.int s) ∧ y = iv h 30 m.toNatClampNeg ∧ hPut h1 h2 238 0 (.long y.toInt64)) ∨ (k = 1 ∧ ¬ (iN 4 m) ∧ hExt h h2) ∨ (k = 2 ∧ (iN 4 m) ∧ ¬ rI 0 2 s ∧ hExt h h2))
theorem C_Ltie (n : Nat) (m s : Int32) (h : List zC) (u : Nat) (hS : Stc h) : zL zrx zi n 210 0 [(0, .ref 16), (1, .int m), (2, .int s), (3, .ref 238)] [] h u (Q_Ltie m s h) := by
  refine zSaload (m := 1) (k := 3) vr_210_0 rfl rfl rfl ?_
  refine zSaload (m := 1) (k := 0) vr_210_1 rfl rfl rfl ?_
  refine zSiload (m := 1) (k := 1) vr_210_2 rfl rfl rfl (fun x6273 e6273 => ?_)
  cases e6273
  refine zSiload (m := 1) (k := 2) vr_210_3 rfl rfl rfl (fun x6274 e6274 => ?_)
  cases e6274
  refine zScall vr_210_4 rfl rfl rfl (fun m6275 _ => C_tie _ _ _ _ _ hS) (fun v6275 h6275 u6275 q6275 => ?_) (fun E6275 h6275 u6275 q6275 => ?_)
  · obtain ⟨k1, y6275, rfl, k2, k3⟩ := q6275
    show zL zrx zi _ 210 7 [(0, _), (1, _), (2, _), (3, _)] [_, _] _ _ _
    refine zS1 (f := fun x => .long x.toInt64) vr_210_7 rfl rfl (fun x6276 e6276 => ?_)
    cases e6276
    refine zLput vr_210_8 rfl (fun p6277 k6277 e6277 t6277 g6277 => ?_)
    cases e6277
    have gP := g6277
    refine zSgo (t := 22) vr_210_11 rfl rfl ?_
    refine zSp0 (pc' := 23) (st' := .int (0) :: _) vr_210_22 rfl rfl ?_
    refine zLiret vr_210_23 rfl (fun x6280 e6280 => ?_)
    cases e6280
    exact ⟨_, rfl, Or.inl ⟨rfl, k1, _, _, k2, k3, gP⟩⟩
  · obtain ⟨q1, ⟨rfl, z⟩ | ⟨rfl, z⟩⟩ := q6275
    · rw [zCat_hit (k := 4) (m := 2) vh_210_4_0 vr_210_14 rfl (by decide)]
      show zL zrx zi _ 210 16 [(0, _), (1, _), (2, _), (3, _)] [] _ _ _
      refine zSp0 (pc' := 17) (st' := .int (1) :: _) vr_210_16 rfl rfl ?_
      refine zLiret vr_210_17 rfl (fun x6282 e6282 => ?_)
      cases e6282
      exact ⟨_, rfl, Or.inr (Or.inl ⟨rfl, z, q1⟩)⟩
    · rw [zCat_hit (k := 4) (m := 2) vh_210_4_1 vr_210_18 rfl (by decide)]
      show zL zrx zi _ 210 20 [(0, _), (1, _), (2, _), (3, _)] [] _ _ _
      refine zSp0 (pc' := 21) (st' := .int (2) :: _) vr_210_20 rfl rfl ?_
      refine zLiret vr_210_21 rfl (fun x6284 e6284 => ?_)
      cases e6284
      exact ⟨_, rfl, Or.inr (Or.inr ⟨rfl, z.1, z.2, q1⟩)⟩
abbrev Q_mtie (m s : Int32) (h : List zC) : zK := fun o h2 _ => ∃ (y : Int32) (h0 : List zC), o = .inl (some (.int y)) ∧ hPut h h0 213 0 (.int 0) ∧
  ((((iN 4 m) ∧ rI 0 2 s) ∧ hPut h0 h2 222 m.toNatClampNeg (.int s) ∧ y = iv h0 222 m.toNatClampNeg) ∨ (¬ (iN 4 m) ∧ hPut h0 h2 213 0 (.int 1)) ∨ ((iN 4 m) ∧ ¬ rI 0 2 s ∧ hPut h0 h2 213 0 (.int 2)))
theorem C_mtie (n : Nat) (m s : Int32) (h : List zC) (u : Nat) (hS : Stc h) : zL zrx zi n 152 0 [(0, .ref 213), (1, .int m), (2, .int s)] [] h u (Q_mtie m s h) := by
  refine zSaload (m := 1) (k := 0) vr_152_0 rfl rfl rfl ?_
  refine zSp0 (pc' := 2) (st' := .int (0) :: _) vr_152_1 rfl rfl ?_
  refine zLput vr_152_2 rfl (fun p6287 k6287 e6287 t6287 g6287 => ?_)
  cases e6287
  have t0 := g6287
  have hS0 := hS.thr t0
  refine zSiload (m := 1) (k := 1) vr_152_5 rfl rfl rfl (fun x6288 e6288 => ?_)
  cases e6288
  refine zSp0 (pc' := 7) (st' := .int (0) :: _) vr_152_6 rfl rfl ?_
  refine zSp0 (pc' := 8) (st' := .int (3) :: _) vr_152_7 rfl rfl ?_
  refine zScall vr_152_8 rfl rfl rfl (fun m6291 _ => C_in _ _ _ _ _ _) (fun v6291 h6291 u6291 q6291 => ?_) (fun E6291 h6291 u6291 q6291 => ?_)
  · obtain ⟨eh6291, z6291⟩ := q6291
    replace eh6291 := eh6291.symm
    subst eh6291
    cases z6291
    show zL zrx zi _ 152 11 [(0, _), (1, _), (2, _)] [_] _ _ _
    refine zSb1 (f := fun x => decide (¬ x = 0)) (off := 9) (t := 20) vr_152_11 rfl rfl rfl (fun x6292 e6292 q6292 => ?_) (fun x6292 e6292 q6292 => ?_)
    · cases e6292
      have c6292 := of_decide_eq_true q6292
      have r1 : iN 4 m := in_y (x := m) (hi := 3) (m := 4) (by decide) c6292
      refine zSiload (m := 1) (k := 2) vr_152_20 rfl rfl rfl (fun x6293 e6293 => ?_)
      cases e6293
      refine zSp0 (pc' := 22) (st' := .int (0) :: _) vr_152_21 rfl rfl ?_
      refine zSp0 (pc' := 23) (st' := .int (2) :: _) vr_152_22 rfl rfl ?_
      refine zScall vr_152_23 rfl rfl rfl (fun m6296 _ => C_in _ _ _ _ _ _) (fun v6296 h6296 u6296 q6296 => ?_) (fun E6296 h6296 u6296 q6296 => ?_)
      · obtain ⟨eh6296, z6296⟩ := q6296
        replace eh6296 := eh6296.symm
        subst eh6296
        cases z6296
        show zL zrx zi _ 152 26 [(0, _), (1, _), (2, _)] [_] _ _ _
        refine zSb1 (f := fun x => decide (¬ x = 0)) (off := 9) (t := 35) vr_152_26 rfl rfl rfl (fun x6297 e6297 q6297 => ?_) (fun x6297 e6297 q6297 => ?_)
        · cases e6297
          have c6297 := of_decide_eq_true q6297
          refine zSaload (m := 1) (k := 0) vr_152_35 rfl rfl rfl ?_
          refine zLget vr_152_36 rfl (fun p6299 w6299 e6299 t6299 g6299 => ?_)
          cases e6299
          first | (rw [(st_213_6' hS0)] at g6299; cases g6299) | skip
          refine zSiload (m := 1) (k := 1) vr_152_39 rfl rfl rfl (fun x6300 e6300 => ?_)
          cases e6300
          refine zLiald vr_152_40 rfl (fun p6301 x6301 w6301 e6301 f6301 c6301 t6301 g6301 => ?_)
          cases e6301
          cases f6301
          first | (rw [(st_213_6' hS0)] at g6301; cases g6301) | skip
          refine zSistore (m := 1) (k := 3) vr_152_41 rfl rfl (fun x6302 e6302 => ?_)
          cases e6302
          show zL zrx zi _ 152 42 [(3, _), (0, _), (1, _), (2, _)] [] _ _ _
          refine zSaload (m := 1) (k := 0) vr_152_42 rfl rfl rfl ?_
          refine zLget vr_152_43 rfl (fun p6304 w6304 e6304 t6304 g6304 => ?_)
          cases e6304
          first | (rw [(st_213_6' hS0)] at g6304; cases g6304) | skip
          refine zSiload (m := 1) (k := 1) vr_152_46 rfl rfl rfl (fun x6305 e6305 => ?_)
          cases e6305
          refine zSiload (m := 1) (k := 2) vr_152_47 rfl rfl rfl (fun x6306 e6306 => ?_)
          cases e6306
          refine zLiast vr_152_48 rfl (fun p6307 x6307 z6307 k6307 e6307 f6307 d6307 c6307 t6307 g6307 => ?_)
          cases e6307
          cases f6307
          cases d6307
          refine zSiload (m := 1) (k := 3) vr_152_49 rfl rfl rfl (fun x6308 e6308 => ?_)
          cases e6308
          refine zLiret vr_152_50 rfl (fun x6309 e6309 => ?_)
          cases e6309
          exact ⟨_, _, rfl, t0, Or.inl ⟨⟨r1, inB_y c6297⟩, g6307, (iv_of g6301).symm⟩⟩
        · cases e6297
          have c6297 := ndc q6297
          refine zSaload (m := 1) (k := 0) vr_152_29 rfl rfl rfl ?_
          refine zSp0 (pc' := 31) (st' := .int (2) :: _) vr_152_30 rfl rfl ?_
          refine zScall vr_152_31 rfl rfl rfl (fun m6312 _ => C_no _ _ _ _ _) (fun v6312 h6312 u6312 q6312 => ?_) (fun E6312 h6312 u6312 q6312 => ?_)
          · obtain ⟨gn6312, z6312⟩ := q6312
            cases z6312
            show zL zrx zi _ 152 34 [(0, _), (1, _), (2, _)] [_] _ _ _
            refine zLiret vr_152_34 rfl (fun x6313 e6313 => ?_)
            cases e6313
            exact ⟨_, _, rfl, t0, Or.inr (Or.inr ⟨r1, inB_n (Decidable.not_not.mp c6297), gn6312⟩)⟩
          · obtain ⟨-, z⟩ := q6312
            cases z
      · obtain ⟨-, z⟩ := q6296
        cases z
    · cases e6292
      have c6292 := ndc q6292
      refine zSaload (m := 1) (k := 0) vr_152_14 rfl rfl rfl ?_
      refine zSp0 (pc' := 16) (st' := .int (1) :: _) vr_152_15 rfl rfl ?_
      refine zScall vr_152_16 rfl rfl rfl (fun m6316 _ => C_no _ _ _ _ _) (fun v6316 h6316 u6316 q6316 => ?_) (fun E6316 h6316 u6316 q6316 => ?_)
      · obtain ⟨gn6316, z6316⟩ := q6316
        cases z6316
        show zL zrx zi _ 152 19 [(0, _), (1, _), (2, _)] [_] _ _ _
        refine zLiret vr_152_19 rfl (fun x6317 e6317 => ?_)
        cases e6317
        exact ⟨_, _, rfl, t0, Or.inr (Or.inl ⟨in_n (x := m) (hi := 3) (m := 4) (by decide) (Decidable.not_not.mp c6292), gn6316⟩)⟩
      · obtain ⟨-, z⟩ := q6316
        cases z
  · obtain ⟨-, z⟩ := q6291
    cases z
theorem C_way (n : Nat) (m s : Int32) (h : List zC) (u : Nat) (hS : Stc h) : zL zrx zi n 72 0 [(0, .ref 16), (1, .int m), (2, .int s)] [] h u (fun o h2 _ => match o with
  | .inl v => ((iN 4 m) ∧ rI 0 3 s) ∧ ∃ y : Int32, v = some (.int y) ∧ hPut h h2 25 m.toNatClampNeg (.int s) ∧ y = iv h 25 m.toNatClampNeg
  | .inr E => hExt h h2 ∧ ((E = 0 ∧ ¬ (iN 4 m)) ∨ (E = 1 ∧ (iN 4 m) ∧ ¬ rI 0 3 s))) := by
  refine zSiload (m := 1) (k := 1) vr_72_0 rfl rfl rfl (fun x6318 e6318 => ?_)
  cases e6318
  refine zSp0 (pc' := 2) (st' := .int (4) :: _) vr_72_1 rfl rfl ?_
  refine zScall vr_72_2 rfl rfl rfl (fun m6320 _ => C_num6 _ _ _ _ (m := 4) (by rfl)) (fun v6320 h6320 u6320 q6320 => ?_) (fun E6320 h6320 u6320 q6320 => ?_)
  · obtain ⟨eh6320, rfl, r1⟩ := q6320
    replace eh6320 := eh6320.symm
    subst eh6320
    show zL zrx zi _ 72 5 [(0, _), (1, _), (2, _)] [] _ _ _
    refine zSiload (m := 1) (k := 2) vr_72_5 rfl rfl rfl (fun x6321 e6321 => ?_)
    cases e6321
    refine zSp0 (pc' := 7) (st' := .int (0) :: _) vr_72_6 rfl rfl ?_
    refine zSp0 (pc' := 8) (st' := .int (3) :: _) vr_72_7 rfl rfl ?_
    refine zScall vr_72_8 rfl rfl rfl (fun m6324 _ => C_val _ _ _ _ _ _) (fun v6324 h6324 u6324 q6324 => ?_) (fun E6324 h6324 u6324 q6324 => ?_)
    · obtain ⟨eh6324, rfl, r3⟩ := q6324
      replace eh6324 := eh6324.symm
      subst eh6324
      show zL zrx zi _ 72 11 [(0, _), (1, _), (2, _)] [] _ _ _
      refine zSaload (m := 1) (k := 0) vr_72_11 rfl rfl rfl ?_
      refine zLget vr_72_12 rfl (fun p6326 w6326 e6326 t6326 g6326 => ?_)
      cases e6326
      first | (rw [(st_16_6 hS)] at g6326; cases g6326) | skip
      refine zSiload (m := 1) (k := 1) vr_72_15 rfl rfl rfl (fun x6327 e6327 => ?_)
      cases e6327
      refine zLiald vr_72_16 rfl (fun p6328 x6328 w6328 e6328 f6328 c6328 t6328 g6328 => ?_)
      cases e6328
      cases f6328
      first | (rw [(st_16_6 hS)] at g6328; cases g6328) | skip
      refine zSistore (m := 1) (k := 3) vr_72_17 rfl rfl (fun x6329 e6329 => ?_)
      cases e6329
      show zL zrx zi _ 72 18 [(3, _), (0, _), (1, _), (2, _)] [] _ _ _
      refine zSaload (m := 1) (k := 0) vr_72_18 rfl rfl rfl ?_
      refine zLget vr_72_19 rfl (fun p6331 w6331 e6331 t6331 g6331 => ?_)
      cases e6331
      first | (rw [(st_16_6 hS)] at g6331; cases g6331) | skip
      refine zSiload (m := 1) (k := 1) vr_72_22 rfl rfl rfl (fun x6332 e6332 => ?_)
      cases e6332
      refine zSiload (m := 1) (k := 2) vr_72_23 rfl rfl rfl (fun x6333 e6333 => ?_)
      cases e6333
      refine zLiast vr_72_24 rfl (fun p6334 x6334 z6334 k6334 e6334 f6334 d6334 c6334 t6334 g6334 => ?_)
      cases e6334
      cases f6334
      cases d6334
      refine zSiload (m := 1) (k := 3) vr_72_25 rfl rfl rfl (fun x6335 e6335 => ?_)
      cases e6335
      refine zLiret vr_72_26 rfl (fun x6336 e6336 => ?_)
      cases e6336
      exact ⟨⟨r1, r3⟩, _, rfl, g6334, (iv_of g6328).symm⟩
    · obtain ⟨rfl, q1, q2⟩ := q6324
      rw [zCat_no vh_72_8_1]
      exact ⟨q2, Or.inr ⟨rfl, r1, q1⟩⟩
  · obtain ⟨rfl, q1, q2⟩ := q6320
    rw [zCat_no vh_72_2_0]
    exact ⟨q2, Or.inl ⟨rfl, q1⟩⟩
abbrev Q_Lway (m s : Int32) (h : List zC) : zK := fun o h2 _ => ∃ k : Int32, o = .inl (some (.int k)) ∧
  ((k = 0 ∧ ((iN 4 m) ∧ rI 0 3 s) ∧ ∃ (h1 : List zC) (y : Int32), hPut h h1 25 m.toNatClampNeg (.int s) ∧ y = iv h 25 m.toNatClampNeg ∧ hPut h1 h2 238 0 (.long y.toInt64)) ∨ (k = 1 ∧ ¬ (iN 4 m) ∧ hExt h h2) ∨ (k = 2 ∧ (iN 4 m) ∧ ¬ rI 0 3 s ∧ hExt h h2))
theorem C_Lway (n : Nat) (m s : Int32) (h : List zC) (u : Nat) (hS : Stc h) : zL zrx zi n 223 0 [(0, .ref 16), (1, .int m), (2, .int s), (3, .ref 238)] [] h u (Q_Lway m s h) := by
  refine zSaload (m := 1) (k := 3) vr_223_0 rfl rfl rfl ?_
  refine zSaload (m := 1) (k := 0) vr_223_1 rfl rfl rfl ?_
  refine zSiload (m := 1) (k := 1) vr_223_2 rfl rfl rfl (fun x6339 e6339 => ?_)
  cases e6339
  refine zSiload (m := 1) (k := 2) vr_223_3 rfl rfl rfl (fun x6340 e6340 => ?_)
  cases e6340
  refine zScall vr_223_4 rfl rfl rfl (fun m6341 _ => C_way _ _ _ _ _ hS) (fun v6341 h6341 u6341 q6341 => ?_) (fun E6341 h6341 u6341 q6341 => ?_)
  · obtain ⟨k1, y6341, rfl, k2, k3⟩ := q6341
    show zL zrx zi _ 223 7 [(0, _), (1, _), (2, _), (3, _)] [_, _] _ _ _
    refine zS1 (f := fun x => .long x.toInt64) vr_223_7 rfl rfl (fun x6342 e6342 => ?_)
    cases e6342
    refine zLput vr_223_8 rfl (fun p6343 k6343 e6343 t6343 g6343 => ?_)
    cases e6343
    have gP := g6343
    refine zSgo (t := 22) vr_223_11 rfl rfl ?_
    refine zSp0 (pc' := 23) (st' := .int (0) :: _) vr_223_22 rfl rfl ?_
    refine zLiret vr_223_23 rfl (fun x6346 e6346 => ?_)
    cases e6346
    exact ⟨_, rfl, Or.inl ⟨rfl, k1, _, _, k2, k3, gP⟩⟩
  · obtain ⟨q1, ⟨rfl, z⟩ | ⟨rfl, z⟩⟩ := q6341
    · rw [zCat_hit (k := 4) (m := 2) vh_223_4_0 vr_223_14 rfl (by decide)]
      show zL zrx zi _ 223 16 [(0, _), (1, _), (2, _), (3, _)] [] _ _ _
      refine zSp0 (pc' := 17) (st' := .int (1) :: _) vr_223_16 rfl rfl ?_
      refine zLiret vr_223_17 rfl (fun x6348 e6348 => ?_)
      cases e6348
      exact ⟨_, rfl, Or.inr (Or.inl ⟨rfl, z, q1⟩)⟩
    · rw [zCat_hit (k := 4) (m := 2) vh_223_4_1 vr_223_18 rfl (by decide)]
      show zL zrx zi _ 223 20 [(0, _), (1, _), (2, _), (3, _)] [] _ _ _
      refine zSp0 (pc' := 21) (st' := .int (2) :: _) vr_223_20 rfl rfl ?_
      refine zLiret vr_223_21 rfl (fun x6350 e6350 => ?_)
      cases e6350
      exact ⟨_, rfl, Or.inr (Or.inr ⟨rfl, z.1, z.2, q1⟩)⟩
abbrev Q_mway (m s : Int32) (h : List zC) : zK := fun o h2 _ => ∃ (y : Int32) (h0 : List zC), o = .inl (some (.int y)) ∧ hPut h h0 213 0 (.int 0) ∧
  ((((iN 4 m) ∧ rI 0 3 s) ∧ hPut h0 h2 237 m.toNatClampNeg (.int s) ∧ y = iv h0 237 m.toNatClampNeg) ∨ (¬ (iN 4 m) ∧ hPut h0 h2 213 0 (.int 1)) ∨ ((iN 4 m) ∧ ¬ rI 0 3 s ∧ hPut h0 h2 213 0 (.int 2)))
theorem C_mway (n : Nat) (m s : Int32) (h : List zC) (u : Nat) (hS : Stc h) : zL zrx zi n 172 0 [(0, .ref 213), (1, .int m), (2, .int s)] [] h u (Q_mway m s h) := by
  refine zSaload (m := 1) (k := 0) vr_172_0 rfl rfl rfl ?_
  refine zSp0 (pc' := 2) (st' := .int (0) :: _) vr_172_1 rfl rfl ?_
  refine zLput vr_172_2 rfl (fun p6353 k6353 e6353 t6353 g6353 => ?_)
  cases e6353
  have t0 := g6353
  have hS0 := hS.thr t0
  refine zSiload (m := 1) (k := 1) vr_172_5 rfl rfl rfl (fun x6354 e6354 => ?_)
  cases e6354
  refine zSp0 (pc' := 7) (st' := .int (0) :: _) vr_172_6 rfl rfl ?_
  refine zSp0 (pc' := 8) (st' := .int (3) :: _) vr_172_7 rfl rfl ?_
  refine zScall vr_172_8 rfl rfl rfl (fun m6357 _ => C_in _ _ _ _ _ _) (fun v6357 h6357 u6357 q6357 => ?_) (fun E6357 h6357 u6357 q6357 => ?_)
  · obtain ⟨eh6357, z6357⟩ := q6357
    replace eh6357 := eh6357.symm
    subst eh6357
    cases z6357
    show zL zrx zi _ 172 11 [(0, _), (1, _), (2, _)] [_] _ _ _
    refine zSb1 (f := fun x => decide (¬ x = 0)) (off := 9) (t := 20) vr_172_11 rfl rfl rfl (fun x6358 e6358 q6358 => ?_) (fun x6358 e6358 q6358 => ?_)
    · cases e6358
      have c6358 := of_decide_eq_true q6358
      have r1 : iN 4 m := in_y (x := m) (hi := 3) (m := 4) (by decide) c6358
      refine zSiload (m := 1) (k := 2) vr_172_20 rfl rfl rfl (fun x6359 e6359 => ?_)
      cases e6359
      refine zSp0 (pc' := 22) (st' := .int (0) :: _) vr_172_21 rfl rfl ?_
      refine zSp0 (pc' := 23) (st' := .int (3) :: _) vr_172_22 rfl rfl ?_
      refine zScall vr_172_23 rfl rfl rfl (fun m6362 _ => C_in _ _ _ _ _ _) (fun v6362 h6362 u6362 q6362 => ?_) (fun E6362 h6362 u6362 q6362 => ?_)
      · obtain ⟨eh6362, z6362⟩ := q6362
        replace eh6362 := eh6362.symm
        subst eh6362
        cases z6362
        show zL zrx zi _ 172 26 [(0, _), (1, _), (2, _)] [_] _ _ _
        refine zSb1 (f := fun x => decide (¬ x = 0)) (off := 9) (t := 35) vr_172_26 rfl rfl rfl (fun x6363 e6363 q6363 => ?_) (fun x6363 e6363 q6363 => ?_)
        · cases e6363
          have c6363 := of_decide_eq_true q6363
          refine zSaload (m := 1) (k := 0) vr_172_35 rfl rfl rfl ?_
          refine zLget vr_172_36 rfl (fun p6365 w6365 e6365 t6365 g6365 => ?_)
          cases e6365
          first | (rw [(st_213_15 hS0)] at g6365; cases g6365) | skip
          refine zSiload (m := 1) (k := 1) vr_172_39 rfl rfl rfl (fun x6366 e6366 => ?_)
          cases e6366
          refine zLiald vr_172_40 rfl (fun p6367 x6367 w6367 e6367 f6367 c6367 t6367 g6367 => ?_)
          cases e6367
          cases f6367
          first | (rw [(st_213_15 hS0)] at g6367; cases g6367) | skip
          refine zSistore (m := 1) (k := 3) vr_172_41 rfl rfl (fun x6368 e6368 => ?_)
          cases e6368
          show zL zrx zi _ 172 42 [(3, _), (0, _), (1, _), (2, _)] [] _ _ _
          refine zSaload (m := 1) (k := 0) vr_172_42 rfl rfl rfl ?_
          refine zLget vr_172_43 rfl (fun p6370 w6370 e6370 t6370 g6370 => ?_)
          cases e6370
          first | (rw [(st_213_15 hS0)] at g6370; cases g6370) | skip
          refine zSiload (m := 1) (k := 1) vr_172_46 rfl rfl rfl (fun x6371 e6371 => ?_)
          cases e6371
          refine zSiload (m := 1) (k := 2) vr_172_47 rfl rfl rfl (fun x6372 e6372 => ?_)
          cases e6372
          refine zLiast vr_172_48 rfl (fun p6373 x6373 z6373 k6373 e6373 f6373 d6373 c6373 t6373 g6373 => ?_)
          cases e6373
          cases f6373
          cases d6373
          refine zSiload (m := 1) (k := 3) vr_172_49 rfl rfl rfl (fun x6374 e6374 => ?_)
          cases e6374
          refine zLiret vr_172_50 rfl (fun x6375 e6375 => ?_)
          cases e6375
          exact ⟨_, _, rfl, t0, Or.inl ⟨⟨r1, inB_y c6363⟩, g6373, (iv_of g6367).symm⟩⟩
        · cases e6363
          have c6363 := ndc q6363
          refine zSaload (m := 1) (k := 0) vr_172_29 rfl rfl rfl ?_
          refine zSp0 (pc' := 31) (st' := .int (2) :: _) vr_172_30 rfl rfl ?_
          refine zScall vr_172_31 rfl rfl rfl (fun m6378 _ => C_no _ _ _ _ _) (fun v6378 h6378 u6378 q6378 => ?_) (fun E6378 h6378 u6378 q6378 => ?_)
          · obtain ⟨gn6378, z6378⟩ := q6378
            cases z6378
            show zL zrx zi _ 172 34 [(0, _), (1, _), (2, _)] [_] _ _ _
            refine zLiret vr_172_34 rfl (fun x6379 e6379 => ?_)
            cases e6379
            exact ⟨_, _, rfl, t0, Or.inr (Or.inr ⟨r1, inB_n (Decidable.not_not.mp c6363), gn6378⟩)⟩
          · obtain ⟨-, z⟩ := q6378
            cases z
      · obtain ⟨-, z⟩ := q6362
        cases z
    · cases e6358
      have c6358 := ndc q6358
      refine zSaload (m := 1) (k := 0) vr_172_14 rfl rfl rfl ?_
      refine zSp0 (pc' := 16) (st' := .int (1) :: _) vr_172_15 rfl rfl ?_
      refine zScall vr_172_16 rfl rfl rfl (fun m6382 _ => C_no _ _ _ _ _) (fun v6382 h6382 u6382 q6382 => ?_) (fun E6382 h6382 u6382 q6382 => ?_)
      · obtain ⟨gn6382, z6382⟩ := q6382
        cases z6382
        show zL zrx zi _ 172 19 [(0, _), (1, _), (2, _)] [_] _ _ _
        refine zLiret vr_172_19 rfl (fun x6383 e6383 => ?_)
        cases e6383
        exact ⟨_, _, rfl, t0, Or.inr (Or.inl ⟨in_n (x := m) (hi := 3) (m := 4) (by decide) (Decidable.not_not.mp c6358), gn6382⟩)⟩
      · obtain ⟨-, z⟩ := q6382
        cases z
  · obtain ⟨-, z⟩ := q6357
    cases z

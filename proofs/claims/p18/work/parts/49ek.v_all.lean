/-! ===== values: all, 8 ===== -/
theorem vr_58_0 : zrx 58 0 = some (.iload_n 1, 0, 0) := by decide +kernel
theorem vr_58_1 : zrx 58 1 = some (.bipush 6, 0, 0) := by decide +kernel
theorem vr_58_3 : zrx 58 3 = some (.invokestatic 68, 96, 0) := by decide +kernel
theorem vr_58_6 : zrx 58 6 = some (.iload_n 2, 0, 0) := by decide +kernel
theorem vr_58_7 : zrx 58 7 = some (.iconst 0, 0, 0) := by decide +kernel
theorem vr_58_8 : zrx 58 8 = some (.iconst 5, 0, 0) := by decide +kernel
theorem vr_58_9 : zrx 58 9 = some (.invokestatic 72, 97, 0) := by decide +kernel
theorem vr_58_12 : zrx 58 12 = some (.iload_n 3, 0, 0) := by decide +kernel
theorem vr_58_13 : zrx 58 13 = some (.iconst 0, 0, 0) := by decide +kernel
theorem vr_58_14 : zrx 58 14 = some (.iconst 5, 0, 0) := by decide +kernel
theorem vr_58_15 : zrx 58 15 = some (.invokestatic 72, 97, 0) := by decide +kernel
theorem vr_58_18 : zrx 58 18 = some (.aload_n 0, 0, 0) := by decide +kernel
theorem vr_58_19 : zrx 58 19 = some (.getfield 15, 13, 5) := by decide +kernel
theorem vr_58_22 : zrx 58 22 = some (.iload_n 1, 0, 0) := by decide +kernel
theorem vr_58_23 : zrx 58 23 = some (.aaload, 0, 0) := by decide +kernel
theorem vr_58_24 : zrx 58 24 = some (.iload_n 2, 0, 0) := by decide +kernel
theorem vr_58_25 : zrx 58 25 = some (.iaload, 0, 0) := by decide +kernel
theorem vr_58_26 : zrx 58 26 = some (.istore 4, 0, 0) := by decide +kernel
theorem vr_58_28 : zrx 58 28 = some (.aload_n 0, 0, 0) := by decide +kernel
theorem vr_58_29 : zrx 58 29 = some (.getfield 15, 13, 5) := by decide +kernel
theorem vr_58_32 : zrx 58 32 = some (.iload_n 1, 0, 0) := by decide +kernel
theorem vr_58_33 : zrx 58 33 = some (.aaload, 0, 0) := by decide +kernel
theorem vr_58_34 : zrx 58 34 = some (.iload_n 2, 0, 0) := by decide +kernel
theorem vr_58_35 : zrx 58 35 = some (.aload_n 0, 0, 0) := by decide +kernel
theorem vr_58_36 : zrx 58 36 = some (.getfield 15, 13, 5) := by decide +kernel
theorem vr_58_39 : zrx 58 39 = some (.iload_n 1, 0, 0) := by decide +kernel
theorem vr_58_40 : zrx 58 40 = some (.aaload, 0, 0) := by decide +kernel
theorem vr_58_41 : zrx 58 41 = some (.iload_n 3, 0, 0) := by decide +kernel
theorem vr_58_42 : zrx 58 42 = some (.iaload, 0, 0) := by decide +kernel
theorem vr_58_43 : zrx 58 43 = some (.iastore, 0, 0) := by decide +kernel
theorem vr_58_44 : zrx 58 44 = some (.aload_n 0, 0, 0) := by decide +kernel
theorem vr_58_45 : zrx 58 45 = some (.getfield 15, 13, 5) := by decide +kernel
theorem vr_58_48 : zrx 58 48 = some (.iload_n 1, 0, 0) := by decide +kernel
theorem vr_58_49 : zrx 58 49 = some (.aaload, 0, 0) := by decide +kernel
theorem vr_58_50 : zrx 58 50 = some (.iload_n 3, 0, 0) := by decide +kernel
theorem vr_58_51 : zrx 58 51 = some (.iload 4, 0, 0) := by decide +kernel
theorem vr_58_53 : zrx 58 53 = some (.iastore, 0, 0) := by decide +kernel
theorem vr_58_54 : zrx 58 54 = some (.aload_n 0, 0, 0) := by decide +kernel
theorem vr_58_55 : zrx 58 55 = some (.getfield 15, 13, 5) := by decide +kernel
theorem vr_58_58 : zrx 58 58 = some (.iload_n 1, 0, 0) := by decide +kernel
theorem vr_58_59 : zrx 58 59 = some (.aaload, 0, 0) := by decide +kernel
theorem vr_58_60 : zrx 58 60 = some (.iload_n 2, 0, 0) := by decide +kernel
theorem vr_58_61 : zrx 58 61 = some (.iaload, 0, 0) := by decide +kernel
theorem vr_58_62 : zrx 58 62 = some (.ireturn, 0, 0) := by decide +kernel
theorem vr_60_0 : zrx 60 0 = some (.iload_n 1, 0, 0) := by decide +kernel
theorem vr_60_1 : zrx 60 1 = some (.bipush 6, 0, 0) := by decide +kernel
theorem vr_60_3 : zrx 60 3 = some (.invokestatic 68, 96, 0) := by decide +kernel
theorem vr_60_6 : zrx 60 6 = some (.iload_n 2, 0, 0) := by decide +kernel
theorem vr_60_7 : zrx 60 7 = some (.iconst 4, 0, 0) := by decide +kernel
theorem vr_60_8 : zrx 60 8 = some (.invokestatic 68, 96, 0) := by decide +kernel
theorem vr_60_11 : zrx 60 11 = some (.iload_n 3, 0, 0) := by decide +kernel
theorem vr_60_12 : zrx 60 12 = some (.iconst 1, 0, 0) := by decide +kernel
theorem vr_60_13 : zrx 60 13 = some (.bipush 15, 0, 0) := by decide +kernel
theorem vr_60_15 : zrx 60 15 = some (.invokestatic 72, 97, 0) := by decide +kernel
theorem vr_60_18 : zrx 60 18 = some (.iload 4, 0, 0) := by decide +kernel
theorem vr_60_20 : zrx 60 20 = some (.iconst 0, 0, 0) := by decide +kernel
theorem vr_60_21 : zrx 60 21 = some (.bipush 63, 0, 0) := by decide +kernel
theorem vr_60_23 : zrx 60 23 = some (.invokestatic 72, 97, 0) := by decide +kernel
theorem vr_60_26 : zrx 60 26 = some (.iload 5, 0, 0) := by decide +kernel
theorem vr_60_28 : zrx 60 28 = some (.iconst 0, 0, 0) := by decide +kernel
theorem vr_60_29 : zrx 60 29 = some (.bipush 63, 0, 0) := by decide +kernel
theorem vr_60_31 : zrx 60 31 = some (.invokestatic 72, 97, 0) := by decide +kernel
theorem vr_60_34 : zrx 60 34 = some (.iload 4, 0, 0) := by decide +kernel
theorem vr_60_36 : zrx 60 36 = some (.iload 5, 0, 0) := by decide +kernel
theorem vr_60_38 : zrx 60 38 = some (.iand, 0, 0) := by decide +kernel
theorem vr_60_39 : zrx 60 39 = some (.iconst 0, 0, 0) := by decide +kernel
theorem vr_60_40 : zrx 60 40 = some (.iconst 0, 0, 0) := by decide +kernel
theorem vr_60_41 : zrx 60 41 = some (.invokestatic 72, 97, 0) := by decide +kernel
theorem vr_60_44 : zrx 60 44 = some (.iload 6, 0, 0) := by decide +kernel
theorem vr_60_46 : zrx 60 46 = some (.iconst 0, 0, 0) := by decide +kernel
theorem vr_60_47 : zrx 60 47 = some (.bipush 100, 0, 0) := by decide +kernel
theorem vr_60_49 : zrx 60 49 = some (.invokestatic 72, 97, 0) := by decide +kernel
theorem vr_60_52 : zrx 60 52 = some (.iload 7, 0, 0) := by decide +kernel
theorem vr_60_54 : zrx 60 54 = some (.iconst 1, 0, 0) := by decide +kernel
theorem vr_60_55 : zrx 60 55 = some (.iconst 5, 0, 0) := by decide +kernel
theorem vr_60_56 : zrx 60 56 = some (.invokestatic 72, 97, 0) := by decide +kernel
theorem vr_60_59 : zrx 60 59 = some (.aload_n 0, 0, 0) := by decide +kernel
theorem vr_60_60 : zrx 60 60 = some (.getfield 33, 13, 9) := by decide +kernel
theorem vr_60_63 : zrx 60 63 = some (.getfield 79, 6, 2) := by decide +kernel
theorem vr_60_66 : zrx 60 66 = some (.bipush 40, 0, 0) := by decide +kernel
theorem vr_60_68 : zrx 60 68 = some (.if_icmp .ge 7, 0, 0) := by decide +kernel
theorem vr_60_71 : zrx 60 71 = some (.iconst 1, 0, 0) := by decide +kernel
theorem vr_60_72 : zrx 60 72 = some (.goto 4, 0, 0) := by decide +kernel
theorem vr_60_75 : zrx 60 75 = some (.iconst 0, 0, 0) := by decide +kernel
theorem vr_60_76 : zrx 60 76 = some (.invokestatic 83, 98, 0) := by decide +kernel
theorem vr_60_79 : zrx 60 79 = some (.aload_n 0, 0, 0) := by decide +kernel
theorem vr_60_80 : zrx 60 80 = some (.getfield 33, 13, 9) := by decide +kernel
theorem vr_60_83 : zrx 60 83 = some (.getfield 87, 6, 0) := by decide +kernel
theorem vr_60_86 : zrx 60 86 = some (.aload_n 0, 0, 0) := by decide +kernel
theorem vr_60_87 : zrx 60 87 = some (.getfield 33, 13, 9) := by decide +kernel
theorem vr_60_90 : zrx 60 90 = some (.getfield 79, 6, 2) := by decide +kernel
theorem vr_60_93 : zrx 60 93 = some (.aaload, 0, 0) := by decide +kernel
theorem vr_60_94 : zrx 60 94 = some (.astore 8, 0, 0) := by decide +kernel
theorem vr_60_96 : zrx 60 96 = some (.aload 8, 0, 0) := by decide +kernel
theorem vr_60_98 : zrx 60 98 = some (.iload_n 1, 0, 0) := by decide +kernel
theorem vr_60_99 : zrx 60 99 = some (.putfield 91, 12, 0) := by decide +kernel
theorem vr_60_102 : zrx 60 102 = some (.aload 8, 0, 0) := by decide +kernel
theorem vr_60_104 : zrx 60 104 = some (.iload_n 2, 0, 0) := by decide +kernel
theorem vr_60_105 : zrx 60 105 = some (.putfield 96, 12, 1) := by decide +kernel
theorem vr_60_108 : zrx 60 108 = some (.aload 8, 0, 0) := by decide +kernel
theorem vr_60_110 : zrx 60 110 = some (.iload_n 3, 0, 0) := by decide +kernel
theorem vr_60_111 : zrx 60 111 = some (.putfield 99, 12, 2) := by decide +kernel
theorem vr_60_114 : zrx 60 114 = some (.aload 8, 0, 0) := by decide +kernel
theorem vr_60_116 : zrx 60 116 = some (.iload 4, 0, 0) := by decide +kernel
theorem vr_60_118 : zrx 60 118 = some (.putfield 102, 12, 3) := by decide +kernel
theorem vr_60_121 : zrx 60 121 = some (.aload 8, 0, 0) := by decide +kernel
theorem vr_60_123 : zrx 60 123 = some (.iload 5, 0, 0) := by decide +kernel
theorem vr_60_125 : zrx 60 125 = some (.putfield 105, 12, 4) := by decide +kernel
theorem vr_60_128 : zrx 60 128 = some (.aload 8, 0, 0) := by decide +kernel
theorem vr_60_130 : zrx 60 130 = some (.iload 6, 0, 0) := by decide +kernel
theorem vr_60_132 : zrx 60 132 = some (.putfield 108, 12, 5) := by decide +kernel
theorem vr_60_135 : zrx 60 135 = some (.aload 8, 0, 0) := by decide +kernel
theorem vr_60_137 : zrx 60 137 = some (.iload 7, 0, 0) := by decide +kernel
theorem vr_60_139 : zrx 60 139 = some (.putfield 111, 12, 6) := by decide +kernel
theorem vr_60_142 : zrx 60 142 = some (.aload 8, 0, 0) := by decide +kernel
theorem vr_60_144 : zrx 60 144 = some (.bipush 10, 0, 0) := by decide +kernel
theorem vr_60_146 : zrx 60 146 = some (.iload 4, 0, 0) := by decide +kernel
theorem vr_60_148 : zrx 60 148 = some (.iload 5, 0, 0) := by decide +kernel
theorem vr_60_150 : zrx 60 150 = some (.ior, 0, 0) := by decide +kernel
theorem vr_60_151 : zrx 60 151 = some (.invokestatic 114, 260, 0) := by decide +kernel
theorem vr_60_154 : zrx 60 154 = some (.imul, 0, 0) := by decide +kernel
theorem vr_60_155 : zrx 60 155 = some (.iload 7, 0, 0) := by decide +kernel
theorem vr_60_157 : zrx 60 157 = some (.iadd, 0, 0) := by decide +kernel
theorem vr_60_158 : zrx 60 158 = some (.putfield 120, 12, 10) := by decide +kernel
theorem vr_60_161 : zrx 60 161 = some (.aload 8, 0, 0) := by decide +kernel
theorem vr_60_163 : zrx 60 163 = some (.aload_n 0, 0, 0) := by decide +kernel
theorem vr_60_164 : zrx 60 164 = some (.getfield 123, 13, 0) := by decide +kernel
theorem vr_60_167 : zrx 60 167 = some (.putfield 126, 12, 9) := by decide +kernel
theorem vr_60_170 : zrx 60 170 = some (.aload_n 0, 0, 0) := by decide +kernel
theorem vr_60_171 : zrx 60 171 = some (.getfield 33, 13, 9) := by decide +kernel
theorem vr_60_174 : zrx 60 174 = some (.dup, 0, 0) := by decide +kernel
theorem vr_60_175 : zrx 60 175 = some (.getfield 79, 6, 2) := by decide +kernel
theorem vr_60_178 : zrx 60 178 = some (.iconst 1, 0, 0) := by decide +kernel
theorem vr_60_179 : zrx 60 179 = some (.iadd, 0, 0) := by decide +kernel
theorem vr_60_180 : zrx 60 180 = some (.putfield 79, 6, 2) := by decide +kernel
theorem vr_60_183 : zrx 60 183 = some (.aload_n 0, 0, 0) := by decide +kernel
theorem vr_60_184 : zrx 60 184 = some (.getfield 33, 13, 9) := by decide +kernel
theorem vr_60_187 : zrx 60 187 = some (.getfield 79, 6, 2) := by decide +kernel
theorem vr_60_190 : zrx 60 190 = some (.iconst 1, 0, 0) := by decide +kernel
theorem vr_60_191 : zrx 60 191 = some (.isub, 0, 0) := by decide +kernel
theorem vr_60_192 : zrx 60 192 = some (.ireturn, 0, 0) := by decide +kernel
theorem vr_61_0 : zrx 61 0 = some (.iload_n 1, 0, 0) := by decide +kernel
theorem vr_61_1 : zrx 61 1 = some (.aload_n 0, 0, 0) := by decide +kernel
theorem vr_61_2 : zrx 61 2 = some (.getfield 33, 13, 9) := by decide +kernel
theorem vr_61_5 : zrx 61 5 = some (.getfield 79, 6, 2) := by decide +kernel
theorem vr_61_8 : zrx 61 8 = some (.invokestatic 68, 96, 0) := by decide +kernel
theorem vr_61_11 : zrx 61 11 = some (.iload_n 2, 0, 0) := by decide +kernel
theorem vr_61_12 : zrx 61 12 = some (.iconst 0, 0, 0) := by decide +kernel
theorem vr_61_13 : zrx 61 13 = some (.sipush 999, 0, 0) := by decide +kernel
theorem vr_61_16 : zrx 61 16 = some (.invokestatic 72, 97, 0) := by decide +kernel
theorem vr_61_19 : zrx 61 19 = some (.iload_n 3, 0, 0) := by decide +kernel
theorem vr_61_20 : zrx 61 20 = some (.iload_n 2, 0, 0) := by decide +kernel
theorem vr_61_21 : zrx 61 21 = some (.sipush 999, 0, 0) := by decide +kernel
theorem vr_61_24 : zrx 61 24 = some (.invokestatic 72, 97, 0) := by decide +kernel
theorem vr_61_27 : zrx 61 27 = some (.aload_n 0, 0, 0) := by decide +kernel
theorem vr_61_28 : zrx 61 28 = some (.getfield 33, 13, 9) := by decide +kernel
theorem vr_61_31 : zrx 61 31 = some (.getfield 87, 6, 0) := by decide +kernel
theorem vr_61_34 : zrx 61 34 = some (.iload_n 1, 0, 0) := by decide +kernel
theorem vr_61_35 : zrx 61 35 = some (.aaload, 0, 0) := by decide +kernel
theorem vr_61_36 : zrx 61 36 = some (.iload_n 2, 0, 0) := by decide +kernel
theorem vr_61_37 : zrx 61 37 = some (.putfield 129, 12, 7) := by decide +kernel
theorem vr_61_40 : zrx 61 40 = some (.aload_n 0, 0, 0) := by decide +kernel
theorem vr_61_41 : zrx 61 41 = some (.getfield 33, 13, 9) := by decide +kernel
theorem vr_61_44 : zrx 61 44 = some (.getfield 87, 6, 0) := by decide +kernel
theorem vr_61_47 : zrx 61 47 = some (.iload_n 1, 0, 0) := by decide +kernel
theorem vr_61_48 : zrx 61 48 = some (.aaload, 0, 0) := by decide +kernel
theorem vr_61_49 : zrx 61 49 = some (.iload_n 3, 0, 0) := by decide +kernel
theorem vr_61_50 : zrx 61 50 = some (.putfield 132, 12, 8) := by decide +kernel
theorem vr_61_53 : zrx 61 53 = some (.aload_n 0, 0, 0) := by decide +kernel
theorem vr_61_54 : zrx 61 54 = some (.getfield 33, 13, 9) := by decide +kernel
theorem vr_61_57 : zrx 61 57 = some (.getfield 87, 6, 0) := by decide +kernel
theorem vr_61_60 : zrx 61 60 = some (.iload_n 1, 0, 0) := by decide +kernel
theorem vr_61_61 : zrx 61 61 = some (.aaload, 0, 0) := by decide +kernel
theorem vr_61_62 : zrx 61 62 = some (.getfield 120, 12, 10) := by decide +kernel
theorem vr_61_65 : zrx 61 65 = some (.ireturn, 0, 0) := by decide +kernel
theorem vr_77_0 : zrx 77 0 = some (.iload_n 1, 0, 0) := by decide +kernel
theorem vr_77_1 : zrx 77 1 = some (.bipush 6, 0, 0) := by decide +kernel
theorem vr_77_3 : zrx 77 3 = some (.invokestatic 68, 96, 0) := by decide +kernel
theorem vr_77_6 : zrx 77 6 = some (.iload_n 2, 0, 0) := by decide +kernel
theorem vr_77_7 : zrx 77 7 = some (.bipush 6, 0, 0) := by decide +kernel
theorem vr_77_9 : zrx 77 9 = some (.invokestatic 68, 96, 0) := by decide +kernel
theorem vr_77_12 : zrx 77 12 = some (.aload_n 0, 0, 0) := by decide +kernel
theorem vr_77_13 : zrx 77 13 = some (.getfield 15, 13, 5) := by decide +kernel
theorem vr_77_16 : zrx 77 16 = some (.iload_n 1, 0, 0) := by decide +kernel
theorem vr_77_17 : zrx 77 17 = some (.aaload, 0, 0) := by decide +kernel
theorem vr_77_18 : zrx 77 18 = some (.iload_n 2, 0, 0) := by decide +kernel
theorem vr_77_19 : zrx 77 19 = some (.iaload, 0, 0) := by decide +kernel
theorem vr_77_20 : zrx 77 20 = some (.ireturn, 0, 0) := by decide +kernel
theorem vr_126_0 : zrx 126 0 = some (.aload_n 0, 0, 0) := by decide +kernel
theorem vr_126_1 : zrx 126 1 = some (.invokespecial 1, 0, 6) := by decide +kernel
theorem vr_126_4 : zrx 126 4 = some (.aload_n 0, 0, 0) := by decide +kernel
theorem vr_126_5 : zrx 126 5 = some (.sipush 999, 0, 0) := by decide +kernel
theorem vr_126_8 : zrx 126 8 = some (.putfield 7, 17, 9) := by decide +kernel
theorem vr_126_11 : zrx 126 11 = some (.aload_n 0, 0, 0) := by decide +kernel
theorem vr_126_12 : zrx 126 12 = some (.iload_n 1, 0, 0) := by decide +kernel
theorem vr_126_13 : zrx 126 13 = some (.putfield 13, 17, 0) := by decide +kernel
theorem vr_126_16 : zrx 126 16 = some (.aload_n 0, 0, 0) := by decide +kernel
theorem vr_126_17 : zrx 126 17 = some (.iload_n 2, 0, 0) := by decide +kernel
theorem vr_126_18 : zrx 126 18 = some (.putfield 16, 17, 1) := by decide +kernel
theorem vr_126_21 : zrx 126 21 = some (.aload_n 0, 0, 0) := by decide +kernel
theorem vr_126_22 : zrx 126 22 = some (.iload_n 3, 0, 0) := by decide +kernel
theorem vr_126_23 : zrx 126 23 = some (.putfield 19, 17, 2) := by decide +kernel
theorem vr_126_26 : zrx 126 26 = some (.aload_n 0, 0, 0) := by decide +kernel
theorem vr_126_27 : zrx 126 27 = some (.iload 4, 0, 0) := by decide +kernel
theorem vr_126_29 : zrx 126 29 = some (.putfield 22, 17, 3) := by decide +kernel
theorem vr_126_32 : zrx 126 32 = some (.aload_n 0, 0, 0) := by decide +kernel
theorem vr_126_33 : zrx 126 33 = some (.iload 5, 0, 0) := by decide +kernel
theorem vr_126_35 : zrx 126 35 = some (.putfield 25, 17, 4) := by decide +kernel
theorem vr_126_38 : zrx 126 38 = some (.aload_n 0, 0, 0) := by decide +kernel
theorem vr_126_39 : zrx 126 39 = some (.iload 6, 0, 0) := by decide +kernel
theorem vr_126_41 : zrx 126 41 = some (.putfield 28, 17, 5) := by decide +kernel
theorem vr_126_44 : zrx 126 44 = some (.aload_n 0, 0, 0) := by decide +kernel
theorem vr_126_45 : zrx 126 45 = some (.iload 7, 0, 0) := by decide +kernel
theorem vr_126_47 : zrx 126 47 = some (.putfield 31, 17, 6) := by decide +kernel
theorem vr_126_50 : zrx 126 50 = some (.aload_n 0, 0, 0) := by decide +kernel
theorem vr_126_51 : zrx 126 51 = some (.iload 8, 0, 0) := by decide +kernel
theorem vr_126_53 : zrx 126 53 = some (.putfield 34, 17, 7) := by decide +kernel
theorem vr_126_56 : zrx 126 56 = some (.return_, 0, 0) := by decide +kernel
theorem vr_127_0 : zrx 127 0 = some (.bipush 10, 0, 0) := by decide +kernel
theorem vr_127_2 : zrx 127 2 = some (.aload_n 0, 0, 0) := by decide +kernel
theorem vr_127_3 : zrx 127 3 = some (.getfield 22, 17, 3) := by decide +kernel
theorem vr_127_6 : zrx 127 6 = some (.invokestatic 37, 134, 1) := by decide +kernel
theorem vr_127_9 : zrx 127 9 = some (.aload_n 0, 0, 0) := by decide +kernel
theorem vr_127_10 : zrx 127 10 = some (.getfield 25, 17, 4) := by decide +kernel
theorem vr_127_13 : zrx 127 13 = some (.invokestatic 37, 134, 1) := by decide +kernel
theorem vr_127_16 : zrx 127 16 = some (.iadd, 0, 0) := by decide +kernel
theorem vr_127_17 : zrx 127 17 = some (.imul, 0, 0) := by decide +kernel
theorem vr_127_18 : zrx 127 18 = some (.aload_n 0, 0, 0) := by decide +kernel
theorem vr_127_19 : zrx 127 19 = some (.getfield 31, 17, 6) := by decide +kernel
theorem vr_127_22 : zrx 127 22 = some (.iadd, 0, 0) := by decide +kernel
theorem vr_127_23 : zrx 127 23 = some (.ireturn, 0, 0) := by decide +kernel
theorem vr_134_0 : zrx 134 0 = some (.iconst 0, 0, 0) := by decide +kernel
theorem vr_134_1 : zrx 134 1 = some (.istore_n 1, 0, 0) := by decide +kernel
theorem vr_134_2 : zrx 134 2 = some (.iload_n 0, 0, 0) := by decide +kernel
theorem vr_134_3 : zrx 134 3 = some (.istore_n 2, 0, 0) := by decide +kernel
theorem vr_134_4 : zrx 134 4 = some (.iload_n 2, 0, 0) := by decide +kernel
theorem vr_134_5 : zrx 134 5 = some (.ifCond .le 16, 0, 0) := by decide +kernel
theorem vr_134_8 : zrx 134 8 = some (.iload_n 1, 0, 0) := by decide +kernel
theorem vr_134_9 : zrx 134 9 = some (.iload_n 2, 0, 0) := by decide +kernel
theorem vr_134_10 : zrx 134 10 = some (.iconst 2, 0, 0) := by decide +kernel
theorem vr_134_11 : zrx 134 11 = some (.irem, 0, 0) := by decide +kernel
theorem vr_134_12 : zrx 134 12 = some (.iadd, 0, 0) := by decide +kernel
theorem vr_134_13 : zrx 134 13 = some (.istore_n 1, 0, 0) := by decide +kernel
theorem vr_134_14 : zrx 134 14 = some (.iload_n 2, 0, 0) := by decide +kernel
theorem vr_134_15 : zrx 134 15 = some (.iconst 2, 0, 0) := by decide +kernel
theorem vr_134_16 : zrx 134 16 = some (.idiv, 0, 0) := by decide +kernel
theorem vr_134_17 : zrx 134 17 = some (.istore_n 2, 0, 0) := by decide +kernel
theorem vr_134_18 : zrx 134 18 = some (.goto (-14), 0, 0) := by decide +kernel
theorem vr_134_21 : zrx 134 21 = some (.iload_n 1, 0, 0) := by decide +kernel
theorem vr_134_22 : zrx 134 22 = some (.ireturn, 0, 0) := by decide +kernel
theorem vr_151_0 : zrx 151 0 = some (.aload_n 0, 0, 0) := by decide +kernel
theorem vr_151_1 : zrx 151 1 = some (.iconst 0, 0, 0) := by decide +kernel
theorem vr_151_2 : zrx 151 2 = some (.putfield 55, 18, 0) := by decide +kernel
theorem vr_151_5 : zrx 151 5 = some (.iload_n 1, 0, 0) := by decide +kernel
theorem vr_151_6 : zrx 151 6 = some (.iconst 0, 0, 0) := by decide +kernel
theorem vr_151_7 : zrx 151 7 = some (.iconst 5, 0, 0) := by decide +kernel
theorem vr_151_8 : zrx 151 8 = some (.invokestatic 209, 132, 0) := by decide +kernel
theorem vr_151_11 : zrx 151 11 = some (.ifCond .ne 9, 0, 0) := by decide +kernel
theorem vr_151_14 : zrx 151 14 = some (.aload_n 0, 0, 0) := by decide +kernel
theorem vr_151_15 : zrx 151 15 = some (.iconst 1, 0, 0) := by decide +kernel
theorem vr_151_16 : zrx 151 16 = some (.invokevirtual 212, 131, 190) := by decide +kernel
theorem vr_151_19 : zrx 151 19 = some (.ireturn, 0, 0) := by decide +kernel
theorem vr_151_20 : zrx 151 20 = some (.iload_n 2, 0, 0) := by decide +kernel
theorem vr_151_21 : zrx 151 21 = some (.iconst 0, 0, 0) := by decide +kernel
theorem vr_151_22 : zrx 151 22 = some (.iconst 5, 0, 0) := by decide +kernel
theorem vr_151_23 : zrx 151 23 = some (.invokestatic 209, 132, 0) := by decide +kernel
theorem vr_151_26 : zrx 151 26 = some (.ifCond .eq 12, 0, 0) := by decide +kernel
theorem vr_151_29 : zrx 151 29 = some (.iload_n 3, 0, 0) := by decide +kernel
theorem vr_151_30 : zrx 151 30 = some (.iconst 0, 0, 0) := by decide +kernel
theorem vr_151_31 : zrx 151 31 = some (.iconst 5, 0, 0) := by decide +kernel
theorem vr_151_32 : zrx 151 32 = some (.invokestatic 209, 132, 0) := by decide +kernel
theorem vr_151_35 : zrx 151 35 = some (.ifCond .ne 9, 0, 0) := by decide +kernel
theorem vr_151_38 : zrx 151 38 = some (.aload_n 0, 0, 0) := by decide +kernel
theorem vr_151_39 : zrx 151 39 = some (.iconst 2, 0, 0) := by decide +kernel
theorem vr_151_40 : zrx 151 40 = some (.invokevirtual 212, 131, 190) := by decide +kernel
theorem vr_151_43 : zrx 151 43 = some (.ireturn, 0, 0) := by decide +kernel
theorem vr_151_44 : zrx 151 44 = some (.aload_n 0, 0, 0) := by decide +kernel
theorem vr_151_45 : zrx 151 45 = some (.getfield 15, 18, 5) := by decide +kernel
theorem vr_151_48 : zrx 151 48 = some (.iload_n 1, 0, 0) := by decide +kernel
theorem vr_151_49 : zrx 151 49 = some (.aaload, 0, 0) := by decide +kernel
theorem vr_151_50 : zrx 151 50 = some (.iload_n 2, 0, 0) := by decide +kernel
theorem vr_151_51 : zrx 151 51 = some (.iaload, 0, 0) := by decide +kernel
theorem vr_151_52 : zrx 151 52 = some (.istore 4, 0, 0) := by decide +kernel
theorem vr_151_54 : zrx 151 54 = some (.aload_n 0, 0, 0) := by decide +kernel
theorem vr_151_55 : zrx 151 55 = some (.getfield 15, 18, 5) := by decide +kernel
theorem vr_151_58 : zrx 151 58 = some (.iload_n 1, 0, 0) := by decide +kernel
theorem vr_151_59 : zrx 151 59 = some (.aaload, 0, 0) := by decide +kernel
theorem vr_151_60 : zrx 151 60 = some (.iload_n 2, 0, 0) := by decide +kernel
theorem vr_151_61 : zrx 151 61 = some (.aload_n 0, 0, 0) := by decide +kernel
theorem vr_151_62 : zrx 151 62 = some (.getfield 15, 18, 5) := by decide +kernel
theorem vr_151_65 : zrx 151 65 = some (.iload_n 1, 0, 0) := by decide +kernel
theorem vr_151_66 : zrx 151 66 = some (.aaload, 0, 0) := by decide +kernel
theorem vr_151_67 : zrx 151 67 = some (.iload_n 3, 0, 0) := by decide +kernel
theorem vr_151_68 : zrx 151 68 = some (.iaload, 0, 0) := by decide +kernel
theorem vr_151_69 : zrx 151 69 = some (.iastore, 0, 0) := by decide +kernel
theorem vr_151_70 : zrx 151 70 = some (.aload_n 0, 0, 0) := by decide +kernel
theorem vr_151_71 : zrx 151 71 = some (.getfield 15, 18, 5) := by decide +kernel
theorem vr_151_74 : zrx 151 74 = some (.iload_n 1, 0, 0) := by decide +kernel
theorem vr_151_75 : zrx 151 75 = some (.aaload, 0, 0) := by decide +kernel
theorem vr_151_76 : zrx 151 76 = some (.iload_n 3, 0, 0) := by decide +kernel
theorem vr_151_77 : zrx 151 77 = some (.iload 4, 0, 0) := by decide +kernel
theorem vr_151_79 : zrx 151 79 = some (.iastore, 0, 0) := by decide +kernel
theorem vr_151_80 : zrx 151 80 = some (.aload_n 0, 0, 0) := by decide +kernel
theorem vr_151_81 : zrx 151 81 = some (.getfield 15, 18, 5) := by decide +kernel
theorem vr_151_84 : zrx 151 84 = some (.iload_n 1, 0, 0) := by decide +kernel
theorem vr_151_85 : zrx 151 85 = some (.aaload, 0, 0) := by decide +kernel
theorem vr_151_86 : zrx 151 86 = some (.iload_n 2, 0, 0) := by decide +kernel
theorem vr_151_87 : zrx 151 87 = some (.iaload, 0, 0) := by decide +kernel
theorem vr_151_88 : zrx 151 88 = some (.ireturn, 0, 0) := by decide +kernel
theorem vr_153_0 : zrx 153 0 = some (.aload_n 0, 0, 0) := by decide +kernel
theorem vr_153_1 : zrx 153 1 = some (.iconst 0, 0, 0) := by decide +kernel
theorem vr_153_2 : zrx 153 2 = some (.putfield 55, 18, 0) := by decide +kernel
theorem vr_153_5 : zrx 153 5 = some (.iload_n 1, 0, 0) := by decide +kernel
theorem vr_153_6 : zrx 153 6 = some (.iconst 0, 0, 0) := by decide +kernel
theorem vr_153_7 : zrx 153 7 = some (.iconst 5, 0, 0) := by decide +kernel
theorem vr_153_8 : zrx 153 8 = some (.invokestatic 209, 132, 0) := by decide +kernel
theorem vr_153_11 : zrx 153 11 = some (.ifCond .eq 12, 0, 0) := by decide +kernel
theorem vr_153_14 : zrx 153 14 = some (.iload_n 2, 0, 0) := by decide +kernel
theorem vr_153_15 : zrx 153 15 = some (.iconst 0, 0, 0) := by decide +kernel
theorem vr_153_16 : zrx 153 16 = some (.iconst 3, 0, 0) := by decide +kernel
theorem vr_153_17 : zrx 153 17 = some (.invokestatic 209, 132, 0) := by decide +kernel
theorem vr_153_20 : zrx 153 20 = some (.ifCond .ne 9, 0, 0) := by decide +kernel
theorem vr_153_23 : zrx 153 23 = some (.aload_n 0, 0, 0) := by decide +kernel
theorem vr_153_24 : zrx 153 24 = some (.iconst 1, 0, 0) := by decide +kernel
theorem vr_153_25 : zrx 153 25 = some (.invokevirtual 212, 131, 190) := by decide +kernel
theorem vr_153_28 : zrx 153 28 = some (.ireturn, 0, 0) := by decide +kernel
theorem vr_153_29 : zrx 153 29 = some (.iload_n 3, 0, 0) := by decide +kernel
theorem vr_153_30 : zrx 153 30 = some (.iconst 1, 0, 0) := by decide +kernel
theorem vr_153_31 : zrx 153 31 = some (.bipush 15, 0, 0) := by decide +kernel
theorem vr_153_33 : zrx 153 33 = some (.invokestatic 209, 132, 0) := by decide +kernel
theorem vr_153_36 : zrx 153 36 = some (.ifCond .eq 54, 0, 0) := by decide +kernel
theorem vr_153_39 : zrx 153 39 = some (.iload 4, 0, 0) := by decide +kernel
theorem vr_153_41 : zrx 153 41 = some (.iconst 0, 0, 0) := by decide +kernel
theorem vr_153_42 : zrx 153 42 = some (.bipush 63, 0, 0) := by decide +kernel
theorem vr_153_44 : zrx 153 44 = some (.invokestatic 209, 132, 0) := by decide +kernel
theorem vr_153_47 : zrx 153 47 = some (.ifCond .eq 43, 0, 0) := by decide +kernel
theorem vr_153_50 : zrx 153 50 = some (.iload 5, 0, 0) := by decide +kernel
theorem vr_153_52 : zrx 153 52 = some (.iconst 0, 0, 0) := by decide +kernel
theorem vr_153_53 : zrx 153 53 = some (.bipush 63, 0, 0) := by decide +kernel
theorem vr_153_55 : zrx 153 55 = some (.invokestatic 209, 132, 0) := by decide +kernel
theorem vr_153_58 : zrx 153 58 = some (.ifCond .eq 32, 0, 0) := by decide +kernel
theorem vr_153_61 : zrx 153 61 = some (.iload 4, 0, 0) := by decide +kernel
theorem vr_153_63 : zrx 153 63 = some (.iload 5, 0, 0) := by decide +kernel
theorem vr_153_65 : zrx 153 65 = some (.iand, 0, 0) := by decide +kernel
theorem vr_153_66 : zrx 153 66 = some (.ifCond .ne 24, 0, 0) := by decide +kernel
theorem vr_153_69 : zrx 153 69 = some (.iload 6, 0, 0) := by decide +kernel
theorem vr_153_71 : zrx 153 71 = some (.iconst 0, 0, 0) := by decide +kernel
theorem vr_153_72 : zrx 153 72 = some (.bipush 100, 0, 0) := by decide +kernel
theorem vr_153_74 : zrx 153 74 = some (.invokestatic 209, 132, 0) := by decide +kernel
theorem vr_153_77 : zrx 153 77 = some (.ifCond .eq 13, 0, 0) := by decide +kernel
theorem vr_153_80 : zrx 153 80 = some (.iload 7, 0, 0) := by decide +kernel
theorem vr_153_82 : zrx 153 82 = some (.iconst 1, 0, 0) := by decide +kernel
theorem vr_153_83 : zrx 153 83 = some (.iconst 5, 0, 0) := by decide +kernel
theorem vr_153_84 : zrx 153 84 = some (.invokestatic 209, 132, 0) := by decide +kernel
theorem vr_153_87 : zrx 153 87 = some (.ifCond .ne 9, 0, 0) := by decide +kernel
theorem vr_153_90 : zrx 153 90 = some (.aload_n 0, 0, 0) := by decide +kernel
theorem vr_153_91 : zrx 153 91 = some (.iconst 2, 0, 0) := by decide +kernel
theorem vr_153_92 : zrx 153 92 = some (.invokevirtual 212, 131, 190) := by decide +kernel
theorem vr_153_95 : zrx 153 95 = some (.ireturn, 0, 0) := by decide +kernel
theorem vr_153_96 : zrx 153 96 = some (.aload_n 0, 0, 0) := by decide +kernel
theorem vr_153_97 : zrx 153 97 = some (.getfield 24, 18, 7) := by decide +kernel
theorem vr_153_100 : zrx 153 100 = some (.invokeinterface 59 1, 304, 35) := by decide +kernel
theorem vr_153_105 : zrx 153 105 = some (.bipush 40, 0, 0) := by decide +kernel
theorem vr_153_107 : zrx 153 107 = some (.if_icmp .ne 9, 0, 0) := by decide +kernel
theorem vr_153_110 : zrx 153 110 = some (.aload_n 0, 0, 0) := by decide +kernel
theorem vr_153_111 : zrx 153 111 = some (.iconst 3, 0, 0) := by decide +kernel
theorem vr_153_112 : zrx 153 112 = some (.invokevirtual 212, 131, 190) := by decide +kernel
theorem vr_153_115 : zrx 153 115 = some (.ireturn, 0, 0) := by decide +kernel
theorem vr_153_116 : zrx 153 116 = some (.aload_n 0, 0, 0) := by decide +kernel
theorem vr_153_117 : zrx 153 117 = some (.getfield 24, 18, 7) := by decide +kernel
theorem vr_153_120 : zrx 153 120 = some (.new 69, 17, 0) := by decide +kernel
theorem vr_153_123 : zrx 153 123 = some (.dup, 0, 0) := by decide +kernel
theorem vr_153_124 : zrx 153 124 = some (.iload_n 1, 0, 0) := by decide +kernel
theorem vr_153_125 : zrx 153 125 = some (.iload_n 2, 0, 0) := by decide +kernel
theorem vr_153_126 : zrx 153 126 = some (.iload_n 3, 0, 0) := by decide +kernel
theorem vr_153_127 : zrx 153 127 = some (.iload 4, 0, 0) := by decide +kernel
theorem vr_153_129 : zrx 153 129 = some (.iload 5, 0, 0) := by decide +kernel
theorem vr_153_131 : zrx 153 131 = some (.iload 6, 0, 0) := by decide +kernel
theorem vr_153_133 : zrx 153 133 = some (.iload 7, 0, 0) := by decide +kernel
theorem vr_153_135 : zrx 153 135 = some (.aload_n 0, 0, 0) := by decide +kernel
theorem vr_153_136 : zrx 153 136 = some (.getfield 215, 18, 1) := by decide +kernel
theorem vr_153_139 : zrx 153 139 = some (.invokespecial 216, 126, 180) := by decide +kernel
theorem vr_153_142 : zrx 153 142 = some (.invokeinterface 219 2, 309, 35) := by decide +kernel
theorem vr_153_147 : zrx 153 147 = some (.pop, 0, 0) := by decide +kernel
theorem vr_153_148 : zrx 153 148 = some (.aload_n 0, 0, 0) := by decide +kernel
theorem vr_153_149 : zrx 153 149 = some (.getfield 24, 18, 7) := by decide +kernel
theorem vr_153_152 : zrx 153 152 = some (.invokeinterface 59 1, 304, 35) := by decide +kernel
theorem vr_153_157 : zrx 153 157 = some (.iconst 1, 0, 0) := by decide +kernel
theorem vr_153_158 : zrx 153 158 = some (.isub, 0, 0) := by decide +kernel
theorem vr_153_159 : zrx 153 159 = some (.ireturn, 0, 0) := by decide +kernel
theorem vr_154_0 : zrx 154 0 = some (.iload_n 1, 0, 0) := by decide +kernel
theorem vr_154_1 : zrx 154 1 = some (.iconst 0, 0, 0) := by decide +kernel
theorem vr_154_2 : zrx 154 2 = some (.aload_n 0, 0, 0) := by decide +kernel
theorem vr_154_3 : zrx 154 3 = some (.getfield 24, 18, 7) := by decide +kernel
theorem vr_154_6 : zrx 154 6 = some (.invokeinterface 59 1, 304, 35) := by decide +kernel
theorem vr_154_11 : zrx 154 11 = some (.iconst 1, 0, 0) := by decide +kernel
theorem vr_154_12 : zrx 154 12 = some (.isub, 0, 0) := by decide +kernel
theorem vr_154_13 : zrx 154 13 = some (.invokestatic 209, 132, 0) := by decide +kernel
theorem vr_154_16 : zrx 154 16 = some (.ireturn, 0, 0) := by decide +kernel
theorem vr_155_0 : zrx 155 0 = some (.aload_n 0, 0, 0) := by decide +kernel
theorem vr_155_1 : zrx 155 1 = some (.iconst 0, 0, 0) := by decide +kernel
theorem vr_155_2 : zrx 155 2 = some (.putfield 55, 18, 0) := by decide +kernel
theorem vr_155_5 : zrx 155 5 = some (.aload_n 0, 0, 0) := by decide +kernel
theorem vr_155_6 : zrx 155 6 = some (.iload_n 1, 0, 0) := by decide +kernel
theorem vr_155_7 : zrx 155 7 = some (.invokevirtual 223, 154, 190) := by decide +kernel
theorem vr_155_10 : zrx 155 10 = some (.ifCond .ne 9, 0, 0) := by decide +kernel
theorem vr_155_13 : zrx 155 13 = some (.aload_n 0, 0, 0) := by decide +kernel
theorem vr_155_14 : zrx 155 14 = some (.iconst 1, 0, 0) := by decide +kernel
theorem vr_155_15 : zrx 155 15 = some (.invokevirtual 212, 131, 190) := by decide +kernel
theorem vr_155_18 : zrx 155 18 = some (.ireturn, 0, 0) := by decide +kernel
theorem vr_155_19 : zrx 155 19 = some (.iload_n 2, 0, 0) := by decide +kernel
theorem vr_155_20 : zrx 155 20 = some (.iconst 0, 0, 0) := by decide +kernel
theorem vr_155_21 : zrx 155 21 = some (.sipush 999, 0, 0) := by decide +kernel
theorem vr_155_24 : zrx 155 24 = some (.invokestatic 209, 132, 0) := by decide +kernel
theorem vr_155_27 : zrx 155 27 = some (.ifCond .eq 14, 0, 0) := by decide +kernel
theorem vr_155_30 : zrx 155 30 = some (.iload_n 3, 0, 0) := by decide +kernel
theorem vr_155_31 : zrx 155 31 = some (.iload_n 2, 0, 0) := by decide +kernel
theorem vr_155_32 : zrx 155 32 = some (.sipush 999, 0, 0) := by decide +kernel
theorem vr_155_35 : zrx 155 35 = some (.invokestatic 209, 132, 0) := by decide +kernel
theorem vr_155_38 : zrx 155 38 = some (.ifCond .ne 9, 0, 0) := by decide +kernel
theorem vr_155_41 : zrx 155 41 = some (.aload_n 0, 0, 0) := by decide +kernel
theorem vr_155_42 : zrx 155 42 = some (.iconst 2, 0, 0) := by decide +kernel
theorem vr_155_43 : zrx 155 43 = some (.invokevirtual 212, 131, 190) := by decide +kernel
theorem vr_155_46 : zrx 155 46 = some (.ireturn, 0, 0) := by decide +kernel
theorem vr_155_47 : zrx 155 47 = some (.aload_n 0, 0, 0) := by decide +kernel
theorem vr_155_48 : zrx 155 48 = some (.getfield 24, 18, 7) := by decide +kernel
theorem vr_155_51 : zrx 155 51 = some (.iload_n 1, 0, 0) := by decide +kernel
theorem vr_155_52 : zrx 155 52 = some (.invokeinterface 65 2, 306, 35) := by decide +kernel
theorem vr_155_57 : zrx 155 57 = some (.checkcast 69, 17, 0) := by decide +kernel
theorem vr_155_60 : zrx 155 60 = some (.iload_n 2, 0, 0) := by decide +kernel
theorem vr_155_61 : zrx 155 61 = some (.putfield 226, 17, 8) := by decide +kernel
theorem vr_155_64 : zrx 155 64 = some (.aload_n 0, 0, 0) := by decide +kernel
theorem vr_155_65 : zrx 155 65 = some (.getfield 24, 18, 7) := by decide +kernel
theorem vr_155_68 : zrx 155 68 = some (.iload_n 1, 0, 0) := by decide +kernel
theorem vr_155_69 : zrx 155 69 = some (.invokeinterface 65 2, 306, 35) := by decide +kernel
theorem vr_155_74 : zrx 155 74 = some (.checkcast 69, 17, 0) := by decide +kernel
theorem vr_155_77 : zrx 155 77 = some (.iload_n 3, 0, 0) := by decide +kernel
theorem vr_155_78 : zrx 155 78 = some (.putfield 229, 17, 9) := by decide +kernel
theorem vr_155_81 : zrx 155 81 = some (.aload_n 0, 0, 0) := by decide +kernel
theorem vr_155_82 : zrx 155 82 = some (.getfield 24, 18, 7) := by decide +kernel
theorem vr_155_85 : zrx 155 85 = some (.iload_n 1, 0, 0) := by decide +kernel
theorem vr_155_86 : zrx 155 86 = some (.invokeinterface 65 2, 306, 35) := by decide +kernel
theorem vr_155_91 : zrx 155 91 = some (.checkcast 69, 17, 0) := by decide +kernel
theorem vr_155_94 : zrx 155 94 = some (.invokevirtual 78, 127, 180) := by decide +kernel
theorem vr_155_97 : zrx 155 97 = some (.ireturn, 0, 0) := by decide +kernel
theorem vr_178_0 : zrx 178 0 = some (.aload_n 0, 0, 0) := by decide +kernel
theorem vr_178_1 : zrx 178 1 = some (.iconst 0, 0, 0) := by decide +kernel
theorem vr_178_2 : zrx 178 2 = some (.putfield 55, 18, 0) := by decide +kernel
theorem vr_178_5 : zrx 178 5 = some (.iload_n 1, 0, 0) := by decide +kernel
theorem vr_178_6 : zrx 178 6 = some (.iconst 0, 0, 0) := by decide +kernel
theorem vr_178_7 : zrx 178 7 = some (.iconst 5, 0, 0) := by decide +kernel
theorem vr_178_8 : zrx 178 8 = some (.invokestatic 209, 132, 0) := by decide +kernel
theorem vr_178_11 : zrx 178 11 = some (.ifCond .eq 12, 0, 0) := by decide +kernel
theorem vr_178_14 : zrx 178 14 = some (.iload_n 2, 0, 0) := by decide +kernel
theorem vr_178_15 : zrx 178 15 = some (.iconst 0, 0, 0) := by decide +kernel
theorem vr_178_16 : zrx 178 16 = some (.iconst 5, 0, 0) := by decide +kernel
theorem vr_178_17 : zrx 178 17 = some (.invokestatic 209, 132, 0) := by decide +kernel
theorem vr_178_20 : zrx 178 20 = some (.ifCond .ne 9, 0, 0) := by decide +kernel
theorem vr_178_23 : zrx 178 23 = some (.aload_n 0, 0, 0) := by decide +kernel
theorem vr_178_24 : zrx 178 24 = some (.iconst 1, 0, 0) := by decide +kernel
theorem vr_178_25 : zrx 178 25 = some (.invokevirtual 212, 131, 190) := by decide +kernel
theorem vr_178_28 : zrx 178 28 = some (.ireturn, 0, 0) := by decide +kernel
theorem vr_178_29 : zrx 178 29 = some (.aload_n 0, 0, 0) := by decide +kernel
theorem vr_178_30 : zrx 178 30 = some (.getfield 15, 18, 5) := by decide +kernel
theorem vr_178_33 : zrx 178 33 = some (.iload_n 1, 0, 0) := by decide +kernel
theorem vr_178_34 : zrx 178 34 = some (.aaload, 0, 0) := by decide +kernel
theorem vr_178_35 : zrx 178 35 = some (.iload_n 2, 0, 0) := by decide +kernel
theorem vr_178_36 : zrx 178 36 = some (.iaload, 0, 0) := by decide +kernel
theorem vr_178_37 : zrx 178 37 = some (.ireturn, 0, 0) := by decide +kernel
theorem vr_209_0 : zrx 209 0 = some (.aload 4, 0, 0) := by decide +kernel
theorem vr_209_2 : zrx 209 2 = some (.aload_n 0, 0, 0) := by decide +kernel
theorem vr_209_3 : zrx 209 3 = some (.iload_n 1, 0, 0) := by decide +kernel
theorem vr_209_4 : zrx 209 4 = some (.iload_n 2, 0, 0) := by decide +kernel
theorem vr_209_5 : zrx 209 5 = some (.iload_n 3, 0, 0) := by decide +kernel
theorem vr_209_6 : zrx 209 6 = some (.invokevirtual 23, 58, 140) := by decide +kernel
theorem vr_209_9 : zrx 209 9 = some (.i2l, 0, 0) := by decide +kernel
theorem vr_209_10 : zrx 209 10 = some (.putfield 13, 14, 1000) := by decide +kernel
theorem vr_209_13 : zrx 209 13 = some (.goto 11, 0, 0) := by decide +kernel
theorem vr_209_16 : zrx 209 16 = some (.astore 5, 0, 0) := by decide +kernel
theorem vr_209_18 : zrx 209 18 = some (.iconst 1, 0, 0) := by decide +kernel
theorem vr_209_19 : zrx 209 19 = some (.ireturn, 0, 0) := by decide +kernel
theorem vr_209_20 : zrx 209 20 = some (.astore 5, 0, 0) := by decide +kernel
theorem vr_209_22 : zrx 209 22 = some (.iconst 2, 0, 0) := by decide +kernel
theorem vr_209_23 : zrx 209 23 = some (.ireturn, 0, 0) := by decide +kernel
theorem vr_209_24 : zrx 209 24 = some (.iconst 0, 0, 0) := by decide +kernel
theorem vr_209_25 : zrx 209 25 = some (.ireturn, 0, 0) := by decide +kernel
theorem vr_211_0 : zrx 211 0 = some (.aload 8, 0, 0) := by decide +kernel
theorem vr_211_2 : zrx 211 2 = some (.aload_n 0, 0, 0) := by decide +kernel
theorem vr_211_3 : zrx 211 3 = some (.iload_n 1, 0, 0) := by decide +kernel
theorem vr_211_4 : zrx 211 4 = some (.iload_n 2, 0, 0) := by decide +kernel
theorem vr_211_5 : zrx 211 5 = some (.iload_n 3, 0, 0) := by decide +kernel
theorem vr_211_6 : zrx 211 6 = some (.iload 4, 0, 0) := by decide +kernel
theorem vr_211_8 : zrx 211 8 = some (.iload 5, 0, 0) := by decide +kernel
theorem vr_211_10 : zrx 211 10 = some (.iload 6, 0, 0) := by decide +kernel
theorem vr_211_12 : zrx 211 12 = some (.iload 7, 0, 0) := by decide +kernel
theorem vr_211_14 : zrx 211 14 = some (.invokevirtual 30, 60, 140) := by decide +kernel
theorem vr_211_17 : zrx 211 17 = some (.i2l, 0, 0) := by decide +kernel
theorem vr_211_18 : zrx 211 18 = some (.putfield 13, 14, 1000) := by decide +kernel
theorem vr_211_21 : zrx 211 21 = some (.goto 15, 0, 0) := by decide +kernel
theorem vr_211_24 : zrx 211 24 = some (.astore 9, 0, 0) := by decide +kernel
theorem vr_211_26 : zrx 211 26 = some (.iconst 1, 0, 0) := by decide +kernel
theorem vr_211_27 : zrx 211 27 = some (.ireturn, 0, 0) := by decide +kernel
theorem vr_211_28 : zrx 211 28 = some (.astore 9, 0, 0) := by decide +kernel
theorem vr_211_30 : zrx 211 30 = some (.iconst 2, 0, 0) := by decide +kernel
theorem vr_211_31 : zrx 211 31 = some (.ireturn, 0, 0) := by decide +kernel
theorem vr_211_32 : zrx 211 32 = some (.astore 9, 0, 0) := by decide +kernel
theorem vr_211_34 : zrx 211 34 = some (.iconst 3, 0, 0) := by decide +kernel
theorem vr_211_35 : zrx 211 35 = some (.ireturn, 0, 0) := by decide +kernel
theorem vr_211_36 : zrx 211 36 = some (.iconst 0, 0, 0) := by decide +kernel
theorem vr_211_37 : zrx 211 37 = some (.ireturn, 0, 0) := by decide +kernel
theorem vr_212_0 : zrx 212 0 = some (.aload 4, 0, 0) := by decide +kernel
theorem vr_212_2 : zrx 212 2 = some (.aload_n 0, 0, 0) := by decide +kernel
theorem vr_212_3 : zrx 212 3 = some (.iload_n 1, 0, 0) := by decide +kernel
theorem vr_212_4 : zrx 212 4 = some (.iload_n 2, 0, 0) := by decide +kernel
theorem vr_212_5 : zrx 212 5 = some (.iload_n 3, 0, 0) := by decide +kernel
theorem vr_212_6 : zrx 212 6 = some (.invokevirtual 36, 61, 140) := by decide +kernel
theorem vr_212_9 : zrx 212 9 = some (.i2l, 0, 0) := by decide +kernel
theorem vr_212_10 : zrx 212 10 = some (.putfield 13, 14, 1000) := by decide +kernel
theorem vr_212_13 : zrx 212 13 = some (.goto 11, 0, 0) := by decide +kernel
theorem vr_212_16 : zrx 212 16 = some (.astore 5, 0, 0) := by decide +kernel
theorem vr_212_18 : zrx 212 18 = some (.iconst 1, 0, 0) := by decide +kernel
theorem vr_212_19 : zrx 212 19 = some (.ireturn, 0, 0) := by decide +kernel
theorem vr_212_20 : zrx 212 20 = some (.astore 5, 0, 0) := by decide +kernel
theorem vr_212_22 : zrx 212 22 = some (.iconst 2, 0, 0) := by decide +kernel
theorem vr_212_23 : zrx 212 23 = some (.ireturn, 0, 0) := by decide +kernel
theorem vr_212_24 : zrx 212 24 = some (.iconst 0, 0, 0) := by decide +kernel
theorem vr_212_25 : zrx 212 25 = some (.ireturn, 0, 0) := by decide +kernel
theorem vr_227_0 : zrx 227 0 = some (.aload_n 3, 0, 0) := by decide +kernel
theorem vr_227_1 : zrx 227 1 = some (.aload_n 0, 0, 0) := by decide +kernel
theorem vr_227_2 : zrx 227 2 = some (.iload_n 1, 0, 0) := by decide +kernel
theorem vr_227_3 : zrx 227 3 = some (.iload_n 2, 0, 0) := by decide +kernel
theorem vr_227_4 : zrx 227 4 = some (.invokevirtual 84, 77, 140) := by decide +kernel
theorem vr_227_7 : zrx 227 7 = some (.i2l, 0, 0) := by decide +kernel
theorem vr_227_8 : zrx 227 8 = some (.putfield 13, 14, 1000) := by decide +kernel
theorem vr_227_11 : zrx 227 11 = some (.goto 7, 0, 0) := by decide +kernel
theorem vr_227_14 : zrx 227 14 = some (.astore 4, 0, 0) := by decide +kernel
theorem vr_227_16 : zrx 227 16 = some (.iconst 1, 0, 0) := by decide +kernel
theorem vr_227_17 : zrx 227 17 = some (.ireturn, 0, 0) := by decide +kernel
theorem vr_227_18 : zrx 227 18 = some (.iconst 0, 0, 0) := by decide +kernel
theorem vr_227_19 : zrx 227 19 = some (.ireturn, 0, 0) := by decide +kernel
theorem vr_260_0 : zrx 260 0 = some (.iload_n 0, 0, 0) := by decide +kernel
theorem vr_260_1 : zrx 260 1 = some (.iload_n 0, 0, 0) := by decide +kernel
theorem vr_260_2 : zrx 260 2 = some (.iconst 1, 0, 0) := by decide +kernel
theorem vr_260_3 : zrx 260 3 = some (.iushr, 0, 0) := by decide +kernel
theorem vr_260_4 : zrx 260 4 = some (.ldc_w 265, 1431655765, 0) := by decide +kernel
theorem vr_260_7 : zrx 260 7 = some (.iand, 0, 0) := by decide +kernel
theorem vr_260_8 : zrx 260 8 = some (.isub, 0, 0) := by decide +kernel
theorem vr_260_9 : zrx 260 9 = some (.istore_n 0, 0, 0) := by decide +kernel
theorem vr_260_10 : zrx 260 10 = some (.iload_n 0, 0, 0) := by decide +kernel
theorem vr_260_11 : zrx 260 11 = some (.ldc_w 266, 858993459, 0) := by decide +kernel
theorem vr_260_14 : zrx 260 14 = some (.iand, 0, 0) := by decide +kernel
theorem vr_260_15 : zrx 260 15 = some (.iload_n 0, 0, 0) := by decide +kernel
theorem vr_260_16 : zrx 260 16 = some (.iconst 2, 0, 0) := by decide +kernel
theorem vr_260_17 : zrx 260 17 = some (.iushr, 0, 0) := by decide +kernel
theorem vr_260_18 : zrx 260 18 = some (.ldc_w 266, 858993459, 0) := by decide +kernel
theorem vr_260_21 : zrx 260 21 = some (.iand, 0, 0) := by decide +kernel
theorem vr_260_22 : zrx 260 22 = some (.iadd, 0, 0) := by decide +kernel
theorem vr_260_23 : zrx 260 23 = some (.istore_n 0, 0, 0) := by decide +kernel
theorem vr_260_24 : zrx 260 24 = some (.iload_n 0, 0, 0) := by decide +kernel
theorem vr_260_25 : zrx 260 25 = some (.iload_n 0, 0, 0) := by decide +kernel
theorem vr_260_26 : zrx 260 26 = some (.iconst 4, 0, 0) := by decide +kernel
theorem vr_260_27 : zrx 260 27 = some (.iushr, 0, 0) := by decide +kernel
theorem vr_260_28 : zrx 260 28 = some (.iadd, 0, 0) := by decide +kernel
theorem vr_260_29 : zrx 260 29 = some (.ldc_w 267, 252645135, 0) := by decide +kernel
theorem vr_260_32 : zrx 260 32 = some (.iand, 0, 0) := by decide +kernel
theorem vr_260_33 : zrx 260 33 = some (.istore_n 0, 0, 0) := by decide +kernel
theorem vr_260_34 : zrx 260 34 = some (.iload_n 0, 0, 0) := by decide +kernel
theorem vr_260_35 : zrx 260 35 = some (.iload_n 0, 0, 0) := by decide +kernel
theorem vr_260_36 : zrx 260 36 = some (.bipush 8, 0, 0) := by decide +kernel
theorem vr_260_38 : zrx 260 38 = some (.iushr, 0, 0) := by decide +kernel
theorem vr_260_39 : zrx 260 39 = some (.iadd, 0, 0) := by decide +kernel
theorem vr_260_40 : zrx 260 40 = some (.istore_n 0, 0, 0) := by decide +kernel
theorem vr_260_41 : zrx 260 41 = some (.iload_n 0, 0, 0) := by decide +kernel
theorem vr_260_42 : zrx 260 42 = some (.iload_n 0, 0, 0) := by decide +kernel
theorem vr_260_43 : zrx 260 43 = some (.bipush 16, 0, 0) := by decide +kernel
theorem vr_260_45 : zrx 260 45 = some (.iushr, 0, 0) := by decide +kernel
theorem vr_260_46 : zrx 260 46 = some (.iadd, 0, 0) := by decide +kernel
theorem vr_260_47 : zrx 260 47 = some (.istore_n 0, 0, 0) := by decide +kernel
theorem vr_260_48 : zrx 260 48 = some (.iload_n 0, 0, 0) := by decide +kernel
theorem vr_260_49 : zrx 260 49 = some (.bipush 63, 0, 0) := by decide +kernel
theorem vr_260_51 : zrx 260 51 = some (.iand, 0, 0) := by decide +kernel
theorem vr_260_52 : zrx 260 52 = some (.ireturn, 0, 0) := by decide +kernel
theorem vh_58_3_0 : zHit (zi 58) 3 0 = none := by decide +kernel
theorem vh_58_9_1 : zHit (zi 58) 9 1 = none := by decide +kernel
theorem vh_58_15_1 : zHit (zi 58) 15 1 = none := by decide +kernel
theorem vh_60_3_0 : zHit (zi 60) 3 0 = none := by decide +kernel
theorem vh_60_8_0 : zHit (zi 60) 8 0 = none := by decide +kernel
theorem vh_60_15_1 : zHit (zi 60) 15 1 = none := by decide +kernel
theorem vh_60_23_1 : zHit (zi 60) 23 1 = none := by decide +kernel
theorem vh_60_31_1 : zHit (zi 60) 31 1 = none := by decide +kernel
theorem vh_60_41_1 : zHit (zi 60) 41 1 = none := by decide +kernel
theorem vh_60_49_1 : zHit (zi 60) 49 1 = none := by decide +kernel
theorem vh_60_56_1 : zHit (zi 60) 56 1 = none := by decide +kernel
theorem vh_60_76_2 : zHit (zi 60) 76 2 = none := by decide +kernel
theorem vh_61_8_0 : zHit (zi 61) 8 0 = none := by decide +kernel
theorem vh_61_16_1 : zHit (zi 61) 16 1 = none := by decide +kernel
theorem vh_61_24_1 : zHit (zi 61) 24 1 = none := by decide +kernel
theorem vh_77_3_0 : zHit (zi 77) 3 0 = none := by decide +kernel
theorem vh_77_9_0 : zHit (zi 77) 9 0 = none := by decide +kernel
theorem vh_209_6_0 : (zHit (zi 209) 6 0).map (fun r => r.2.2.1) = some 16 := by decide +kernel
theorem vh_209_6_1 : (zHit (zi 209) 6 1).map (fun r => r.2.2.1) = some 20 := by decide +kernel
theorem vh_211_14_0 : (zHit (zi 211) 14 0).map (fun r => r.2.2.1) = some 24 := by decide +kernel
theorem vh_211_14_1 : (zHit (zi 211) 14 1).map (fun r => r.2.2.1) = some 28 := by decide +kernel
theorem vh_211_14_2 : (zHit (zi 211) 14 2).map (fun r => r.2.2.1) = some 32 := by decide +kernel
theorem vh_212_6_0 : (zHit (zi 212) 6 0).map (fun r => r.2.2.1) = some 16 := by decide +kernel
theorem vh_212_6_1 : (zHit (zi 212) 6 1).map (fun r => r.2.2.1) = some 20 := by decide +kernel
theorem vh_227_4_0 : (zHit (zi 227) 4 0).map (fun r => r.2.2.1) = some 14 := by decide +kernel
theorem C_bits (n : Nat) (x : Int32) (h : List zC) (u : Nat) : zL zrx zi n 260 0 [(0, .int x)] [] h u (fun o h2 _ => h2 = h ∧ o = .inl (some (.int (bcO x)))) := by
  refine zSiload (m := 1) (k := 0) vr_260_0 rfl rfl rfl (fun x3611 e3611 => ?_)
  cases e3611
  refine zSiload (m := 1) (k := 0) vr_260_1 rfl rfl rfl (fun x3612 e3612 => ?_)
  cases e3612
  refine zSp0 (pc' := 3) (st' := .int (1) :: _) vr_260_2 rfl rfl ?_
  refine zS2 (f := fun x y => .int (x.toUInt32 >>> (y.toUInt32 &&& Int32.toUInt32 31)).toInt32) vr_260_3 rfl rfl (fun x3614 y3614 e3614 f3614 => ?_)
  cases e3614
  cases f3614
  refine zScstV (v := .int (Int32.ofNat 1431655765)) vr_260_4 rfl rfl ?_
  refine zS2 (f := fun x y => .int (x &&& y)) vr_260_7 rfl rfl (fun x3616 y3616 e3616 f3616 => ?_)
  cases e3616
  cases f3616
  refine zS2 (f := fun x y => .int (x - y)) vr_260_8 rfl rfl (fun x3617 y3617 e3617 f3617 => ?_)
  cases e3617
  cases f3617
  refine zSistore (m := 1) (k := 0) vr_260_9 rfl rfl (fun x3618 e3618 => ?_)
  cases e3618
  show zL zrx zi _ 260 10 [(0, _)] [] _ _ _
  refine zSiload (m := 1) (k := 0) vr_260_10 rfl rfl rfl (fun x3619 e3619 => ?_)
  cases e3619
  refine zScstV (v := .int (Int32.ofNat 858993459)) vr_260_11 rfl rfl ?_
  refine zS2 (f := fun x y => .int (x &&& y)) vr_260_14 rfl rfl (fun x3621 y3621 e3621 f3621 => ?_)
  cases e3621
  cases f3621
  refine zSiload (m := 1) (k := 0) vr_260_15 rfl rfl rfl (fun x3622 e3622 => ?_)
  cases e3622
  refine zSp0 (pc' := 17) (st' := .int (2) :: _) vr_260_16 rfl rfl ?_
  refine zS2 (f := fun x y => .int (x.toUInt32 >>> (y.toUInt32 &&& Int32.toUInt32 31)).toInt32) vr_260_17 rfl rfl (fun x3624 y3624 e3624 f3624 => ?_)
  cases e3624
  cases f3624
  refine zScstV (v := .int (Int32.ofNat 858993459)) vr_260_18 rfl rfl ?_
  refine zS2 (f := fun x y => .int (x &&& y)) vr_260_21 rfl rfl (fun x3626 y3626 e3626 f3626 => ?_)
  cases e3626
  cases f3626
  refine zS2 (f := fun x y => .int (x + y)) vr_260_22 rfl rfl (fun x3627 y3627 e3627 f3627 => ?_)
  cases e3627
  cases f3627
  refine zSistore (m := 1) (k := 0) vr_260_23 rfl rfl (fun x3628 e3628 => ?_)
  cases e3628
  show zL zrx zi _ 260 24 [(0, _)] [] _ _ _
  refine zSiload (m := 1) (k := 0) vr_260_24 rfl rfl rfl (fun x3629 e3629 => ?_)
  cases e3629
  refine zSiload (m := 1) (k := 0) vr_260_25 rfl rfl rfl (fun x3630 e3630 => ?_)
  cases e3630
  refine zSp0 (pc' := 27) (st' := .int (4) :: _) vr_260_26 rfl rfl ?_
  refine zS2 (f := fun x y => .int (x.toUInt32 >>> (y.toUInt32 &&& Int32.toUInt32 31)).toInt32) vr_260_27 rfl rfl (fun x3632 y3632 e3632 f3632 => ?_)
  cases e3632
  cases f3632
  refine zS2 (f := fun x y => .int (x + y)) vr_260_28 rfl rfl (fun x3633 y3633 e3633 f3633 => ?_)
  cases e3633
  cases f3633
  refine zScstV (v := .int (Int32.ofNat 252645135)) vr_260_29 rfl rfl ?_
  refine zS2 (f := fun x y => .int (x &&& y)) vr_260_32 rfl rfl (fun x3635 y3635 e3635 f3635 => ?_)
  cases e3635
  cases f3635
  refine zSistore (m := 1) (k := 0) vr_260_33 rfl rfl (fun x3636 e3636 => ?_)
  cases e3636
  show zL zrx zi _ 260 34 [(0, _)] [] _ _ _
  refine zSiload (m := 1) (k := 0) vr_260_34 rfl rfl rfl (fun x3637 e3637 => ?_)
  cases e3637
  refine zSiload (m := 1) (k := 0) vr_260_35 rfl rfl rfl (fun x3638 e3638 => ?_)
  cases e3638
  refine zSp0 (pc' := 38) (st' := .int (8) :: _) vr_260_36 rfl rfl ?_
  refine zS2 (f := fun x y => .int (x.toUInt32 >>> (y.toUInt32 &&& Int32.toUInt32 31)).toInt32) vr_260_38 rfl rfl (fun x3640 y3640 e3640 f3640 => ?_)
  cases e3640
  cases f3640
  refine zS2 (f := fun x y => .int (x + y)) vr_260_39 rfl rfl (fun x3641 y3641 e3641 f3641 => ?_)
  cases e3641
  cases f3641
  refine zSistore (m := 1) (k := 0) vr_260_40 rfl rfl (fun x3642 e3642 => ?_)
  cases e3642
  show zL zrx zi _ 260 41 [(0, _)] [] _ _ _
  refine zSiload (m := 1) (k := 0) vr_260_41 rfl rfl rfl (fun x3643 e3643 => ?_)
  cases e3643
  refine zSiload (m := 1) (k := 0) vr_260_42 rfl rfl rfl (fun x3644 e3644 => ?_)
  cases e3644
  refine zSp0 (pc' := 45) (st' := .int (16) :: _) vr_260_43 rfl rfl ?_
  refine zS2 (f := fun x y => .int (x.toUInt32 >>> (y.toUInt32 &&& Int32.toUInt32 31)).toInt32) vr_260_45 rfl rfl (fun x3646 y3646 e3646 f3646 => ?_)
  cases e3646
  cases f3646
  refine zS2 (f := fun x y => .int (x + y)) vr_260_46 rfl rfl (fun x3647 y3647 e3647 f3647 => ?_)
  cases e3647
  cases f3647
  refine zSistore (m := 1) (k := 0) vr_260_47 rfl rfl (fun x3648 e3648 => ?_)
  cases e3648
  show zL zrx zi _ 260 48 [(0, _)] [] _ _ _
  refine zSiload (m := 1) (k := 0) vr_260_48 rfl rfl rfl (fun x3649 e3649 => ?_)
  cases e3649
  refine zSp0 (pc' := 51) (st' := .int (63) :: _) vr_260_49 rfl rfl ?_
  refine zS2 (f := fun x y => .int (x &&& y)) vr_260_51 rfl rfl (fun x3651 y3651 e3651 f3651 => ?_)
  cases e3651
  cases f3651
  refine zLiret vr_260_52 rfl (fun x3652 e3652 => ?_)
  cases e3652
  exact ⟨rfl, rfl⟩
theorem C_rule (n : Nat) (p m c a b s r : Int32) (h : List zC) (u : Nat) {cnt : Int32} (hS : Stc h) (hc : gF h 28 2 = some (.int cnt)) : zL zrx zi n 60 0 [(0, .ref 16), (1, .int p), (2, .int m), (3, .int c), (4, .int a), (5, .int b), (6, .int s), (7, .int r)] [] h u (fun o h2 _ => match o with
  | .inl v => okR p m c a b s r cnt ∧ (∃ x : Int32, v = some (.int x)) ∧ RM h h2 (31 + cnt.toNatClampNeg) cnt p m c a b s r
  | .inr E => (E = 0 ∨ E = 1 ∨ E = 2) ∧ hExt h h2 ∧ ¬ okR p m c a b s r cnt) := by
  refine zSiload (m := 1) (k := 1) vr_60_0 rfl rfl rfl (fun x3653 e3653 => ?_)
  cases e3653
  refine zSp0 (pc' := 3) (st' := .int (6) :: _) vr_60_1 rfl rfl ?_
  refine zScall vr_60_3 rfl rfl rfl (fun m3655 _ => C_num6 _ _ _ _ (m := 6) (by rfl)) (fun v3655 h3655 u3655 q3655 => ?_) (fun E3655 h3655 u3655 q3655 => ?_)
  · obtain ⟨eh3655, rfl, r1⟩ := q3655
    replace eh3655 := eh3655.symm
    subst eh3655
    show zL zrx zi _ 60 6 [(0, _), (1, _), (2, _), (3, _), (4, _), (5, _), (6, _), (7, _)] [] _ _ _
    refine zSiload (m := 1) (k := 2) vr_60_6 rfl rfl rfl (fun x3656 e3656 => ?_)
    cases e3656
    refine zSp0 (pc' := 8) (st' := .int (4) :: _) vr_60_7 rfl rfl ?_
    refine zScall vr_60_8 rfl rfl rfl (fun m3658 _ => C_num6 _ _ _ _ (m := 4) (by rfl)) (fun v3658 h3658 u3658 q3658 => ?_) (fun E3658 h3658 u3658 q3658 => ?_)
    · obtain ⟨eh3658, rfl, r2⟩ := q3658
      replace eh3658 := eh3658.symm
      subst eh3658
      show zL zrx zi _ 60 11 [(0, _), (1, _), (2, _), (3, _), (4, _), (5, _), (6, _), (7, _)] [] _ _ _
      refine zSiload (m := 1) (k := 3) vr_60_11 rfl rfl rfl (fun x3659 e3659 => ?_)
      cases e3659
      refine zSp0 (pc' := 13) (st' := .int (1) :: _) vr_60_12 rfl rfl ?_
      refine zSp0 (pc' := 15) (st' := .int (15) :: _) vr_60_13 rfl rfl ?_
      refine zScall vr_60_15 rfl rfl rfl (fun m3662 _ => C_val _ _ _ _ _ _) (fun v3662 h3662 u3662 q3662 => ?_) (fun E3662 h3662 u3662 q3662 => ?_)
      · obtain ⟨eh3662, rfl, r3⟩ := q3662
        replace eh3662 := eh3662.symm
        subst eh3662
        show zL zrx zi _ 60 18 [(0, _), (1, _), (2, _), (3, _), (4, _), (5, _), (6, _), (7, _)] [] _ _ _
        refine zSiload (m := 2) (k := 4) vr_60_18 rfl rfl rfl (fun x3663 e3663 => ?_)
        cases e3663
        refine zSp0 (pc' := 21) (st' := .int (0) :: _) vr_60_20 rfl rfl ?_
        refine zSp0 (pc' := 23) (st' := .int (63) :: _) vr_60_21 rfl rfl ?_
        refine zScall vr_60_23 rfl rfl rfl (fun m3666 _ => C_val _ _ _ _ _ _) (fun v3666 h3666 u3666 q3666 => ?_) (fun E3666 h3666 u3666 q3666 => ?_)
        · obtain ⟨eh3666, rfl, r4⟩ := q3666
          replace eh3666 := eh3666.symm
          subst eh3666
          show zL zrx zi _ 60 26 [(0, _), (1, _), (2, _), (3, _), (4, _), (5, _), (6, _), (7, _)] [] _ _ _
          refine zSiload (m := 2) (k := 5) vr_60_26 rfl rfl rfl (fun x3667 e3667 => ?_)
          cases e3667
          refine zSp0 (pc' := 29) (st' := .int (0) :: _) vr_60_28 rfl rfl ?_
          refine zSp0 (pc' := 31) (st' := .int (63) :: _) vr_60_29 rfl rfl ?_
          refine zScall vr_60_31 rfl rfl rfl (fun m3670 _ => C_val _ _ _ _ _ _) (fun v3670 h3670 u3670 q3670 => ?_) (fun E3670 h3670 u3670 q3670 => ?_)
          · obtain ⟨eh3670, rfl, r5⟩ := q3670
            replace eh3670 := eh3670.symm
            subst eh3670
            show zL zrx zi _ 60 34 [(0, _), (1, _), (2, _), (3, _), (4, _), (5, _), (6, _), (7, _)] [] _ _ _
            refine zSiload (m := 2) (k := 4) vr_60_34 rfl rfl rfl (fun x3671 e3671 => ?_)
            cases e3671
            refine zSiload (m := 2) (k := 5) vr_60_36 rfl rfl rfl (fun x3672 e3672 => ?_)
            cases e3672
            refine zS2 (f := fun x y => .int (x &&& y)) vr_60_38 rfl rfl (fun x3673 y3673 e3673 f3673 => ?_)
            cases e3673
            cases f3673
            refine zSp0 (pc' := 40) (st' := .int (0) :: _) vr_60_39 rfl rfl ?_
            refine zSp0 (pc' := 41) (st' := .int (0) :: _) vr_60_40 rfl rfl ?_
            refine zScall vr_60_41 rfl rfl rfl (fun m3676 _ => C_val _ _ _ _ _ _) (fun v3676 h3676 u3676 q3676 => ?_) (fun E3676 h3676 u3676 q3676 => ?_)
            · obtain ⟨eh3676, rfl, r6⟩ := q3676
              replace eh3676 := eh3676.symm
              subst eh3676
              show zL zrx zi _ 60 44 [(0, _), (1, _), (2, _), (3, _), (4, _), (5, _), (6, _), (7, _)] [] _ _ _
              refine zSiload (m := 2) (k := 6) vr_60_44 rfl rfl rfl (fun x3677 e3677 => ?_)
              cases e3677
              refine zSp0 (pc' := 47) (st' := .int (0) :: _) vr_60_46 rfl rfl ?_
              refine zSp0 (pc' := 49) (st' := .int (100) :: _) vr_60_47 rfl rfl ?_
              refine zScall vr_60_49 rfl rfl rfl (fun m3680 _ => C_val _ _ _ _ _ _) (fun v3680 h3680 u3680 q3680 => ?_) (fun E3680 h3680 u3680 q3680 => ?_)
              · obtain ⟨eh3680, rfl, r7⟩ := q3680
                replace eh3680 := eh3680.symm
                subst eh3680
                show zL zrx zi _ 60 52 [(0, _), (1, _), (2, _), (3, _), (4, _), (5, _), (6, _), (7, _)] [] _ _ _
                refine zSiload (m := 2) (k := 7) vr_60_52 rfl rfl rfl (fun x3681 e3681 => ?_)
                cases e3681
                refine zSp0 (pc' := 55) (st' := .int (1) :: _) vr_60_54 rfl rfl ?_
                refine zSp0 (pc' := 56) (st' := .int (5) :: _) vr_60_55 rfl rfl ?_
                refine zScall vr_60_56 rfl rfl rfl (fun m3684 _ => C_val _ _ _ _ _ _) (fun v3684 h3684 u3684 q3684 => ?_) (fun E3684 h3684 u3684 q3684 => ?_)
                · obtain ⟨eh3684, rfl, r8⟩ := q3684
                  replace eh3684 := eh3684.symm
                  subst eh3684
                  show zL zrx zi _ 60 59 [(0, _), (1, _), (2, _), (3, _), (4, _), (5, _), (6, _), (7, _)] [] _ _ _
                  refine zSaload (m := 1) (k := 0) vr_60_59 rfl rfl rfl ?_
                  refine zLget vr_60_60 rfl (fun p3686 w3686 e3686 t3686 g3686 => ?_)
                  cases e3686
                  first | (rw [(st_16_9 hS)] at g3686; cases g3686) | (rw [(st_28_0 hS)] at g3686; cases g3686) | (rw [hc] at g3686; cases g3686) | (rw [(st_rule hS hk)] at g3686; cases g3686) | skip
                  refine zLget vr_60_63 rfl (fun p3687 w3687 e3687 t3687 g3687 => ?_)
                  cases e3687
                  first | (rw [(st_16_9 hS)] at g3687; cases g3687) | (rw [(st_28_0 hS)] at g3687; cases g3687) | (rw [hc] at g3687; cases g3687) | (rw [(st_rule hS hk)] at g3687; cases g3687) | skip
                  refine zSp0 (pc' := 68) (st' := .int (40) :: _) vr_60_66 rfl rfl ?_
                  refine zSb2 (f := fun x y => decide (y ≤ x)) (off := 7) (t := 75) vr_60_68 rfl rfl rfl (fun x3689 y3689 e3689 f3689 q3689 => ?_) (fun x3689 y3689 e3689 f3689 q3689 => ?_)
                  · cases e3689
                    cases f3689
                    refine zSp0 (pc' := 76) (st' := .int (0) :: _) vr_60_75 rfl rfl ?_
                    refine zScall vr_60_76 rfl rfl rfl (fun m _ => C_needState _ _ _ _) (fun v h u q => absurd rfl q.2.2) (fun E h3 u q => ?_)
                    obtain ⟨rfl, -, q2⟩ := q
                    rw [zCat_no vh_60_76_2]
                    refine ⟨Or.inr (Or.inr rfl), q2, fun z => ?_⟩
                    have y := q3689
                    have z40 : (40 : Int32).toInt = 40 := rfl
                    simp only [decide_eq_true_eq, i32_le] at y
                    have := z.2.2
                    omega
                  · cases e3689
                    cases f3689
                    have hcn : cnt.toInt < 40 := by
                      have y := q3689
                      have z40 : (40 : Int32).toInt = 40 := rfl
                      simp only [decide_eq_true_eq, i32_le] at y
                      omega
                    have hk := n40 hcn
                    refine zSp0 (pc' := 72) (st' := .int (1) :: _) vr_60_71 rfl rfl ?_
                    refine zSgo (t := 76) vr_60_72 rfl rfl ?_
                    refine zScall vr_60_76 rfl rfl rfl (fun m3692 _ => C_needState _ _ _ _) (fun v3692 h3692 u3692 q3692 => ?_) (fun E3692 h3692 u3692 q3692 => ?_)
                    · obtain ⟨eh3692, rfl, -⟩ := q3692
                      replace eh3692 := eh3692.symm
                      subst eh3692
                      show zL zrx zi _ 60 79 [(0, _), (1, _), (2, _), (3, _), (4, _), (5, _), (6, _), (7, _)] [] _ _ _
                      refine zSaload (m := 1) (k := 0) vr_60_79 rfl rfl rfl ?_
                      refine zLget vr_60_80 rfl (fun p3694 w3694 e3694 t3694 g3694 => ?_)
                      cases e3694
                      first | (rw [(st_16_9 hS)] at g3694; cases g3694) | (rw [(st_28_0 hS)] at g3694; cases g3694) | (rw [hc] at g3694; cases g3694) | (rw [(st_rule hS hk)] at g3694; cases g3694) | skip
                      refine zLget vr_60_83 rfl (fun p3695 w3695 e3695 t3695 g3695 => ?_)
                      cases e3695
                      first | (rw [(st_16_9 hS)] at g3695; cases g3695) | (rw [(st_28_0 hS)] at g3695; cases g3695) | (rw [hc] at g3695; cases g3695) | (rw [(st_rule hS hk)] at g3695; cases g3695) | skip
                      refine zSaload (m := 1) (k := 0) vr_60_86 rfl rfl rfl ?_
                      refine zLget vr_60_87 rfl (fun p3697 w3697 e3697 t3697 g3697 => ?_)
                      cases e3697
                      first | (rw [(st_16_9 hS)] at g3697; cases g3697) | (rw [(st_28_0 hS)] at g3697; cases g3697) | (rw [hc] at g3697; cases g3697) | (rw [(st_rule hS hk)] at g3697; cases g3697) | skip
                      refine zLget vr_60_90 rfl (fun p3698 w3698 e3698 t3698 g3698 => ?_)
                      cases e3698
                      first | (rw [(st_16_9 hS)] at g3698; cases g3698) | (rw [(st_28_0 hS)] at g3698; cases g3698) | (rw [hc] at g3698; cases g3698) | (rw [(st_rule hS hk)] at g3698; cases g3698) | skip
                      refine zLaald vr_60_93 rfl (fun p3699 x3699 w3699 e3699 f3699 c3699 t3699 g3699 => ?_)
                      cases e3699
                      cases f3699
                      first | (rw [(st_16_9 hS)] at g3699; cases g3699) | (rw [(st_28_0 hS)] at g3699; cases g3699) | (rw [hc] at g3699; cases g3699) | (rw [(st_rule hS hk)] at g3699; cases g3699) | skip
                      refine zSastore (m := 2) (k := 8) vr_60_94 rfl rfl ?_
                      show zL zrx zi _ 60 96 [(8, _), (0, _), (1, _), (2, _), (3, _), (4, _), (5, _), (6, _), (7, _)] [] _ _ _
                      refine zSaload (m := 2) (k := 8) vr_60_96 rfl rfl rfl ?_
                      refine zSiload (m := 1) (k := 1) vr_60_98 rfl rfl rfl (fun x3702 e3702 => ?_)
                      cases e3702
                      refine zLput vr_60_99 rfl (fun p3703 k3703 e3703 t3703 g3703 => ?_)
                      cases e3703
                      refine zSaload (m := 2) (k := 8) vr_60_102 rfl rfl rfl ?_
                      refine zSiload (m := 1) (k := 2) vr_60_104 rfl rfl rfl (fun x3705 e3705 => ?_)
                      cases e3705
                      refine zLput vr_60_105 rfl (fun p3706 k3706 e3706 t3706 g3706 => ?_)
                      cases e3706
                      refine zSaload (m := 2) (k := 8) vr_60_108 rfl rfl rfl ?_
                      refine zSiload (m := 1) (k := 3) vr_60_110 rfl rfl rfl (fun x3708 e3708 => ?_)
                      cases e3708
                      refine zLput vr_60_111 rfl (fun p3709 k3709 e3709 t3709 g3709 => ?_)
                      cases e3709
                      refine zSaload (m := 2) (k := 8) vr_60_114 rfl rfl rfl ?_
                      refine zSiload (m := 2) (k := 4) vr_60_116 rfl rfl rfl (fun x3711 e3711 => ?_)
                      cases e3711
                      refine zLput vr_60_118 rfl (fun p3712 k3712 e3712 t3712 g3712 => ?_)
                      cases e3712
                      refine zSaload (m := 2) (k := 8) vr_60_121 rfl rfl rfl ?_
                      refine zSiload (m := 2) (k := 5) vr_60_123 rfl rfl rfl (fun x3714 e3714 => ?_)
                      cases e3714
                      refine zLput vr_60_125 rfl (fun p3715 k3715 e3715 t3715 g3715 => ?_)
                      cases e3715
                      refine zSaload (m := 2) (k := 8) vr_60_128 rfl rfl rfl ?_
                      refine zSiload (m := 2) (k := 6) vr_60_130 rfl rfl rfl (fun x3717 e3717 => ?_)
                      cases e3717
                      refine zLput vr_60_132 rfl (fun p3718 k3718 e3718 t3718 g3718 => ?_)
                      cases e3718
                      refine zSaload (m := 2) (k := 8) vr_60_135 rfl rfl rfl ?_
                      refine zSiload (m := 2) (k := 7) vr_60_137 rfl rfl rfl (fun x3720 e3720 => ?_)
                      cases e3720
                      refine zLput vr_60_139 rfl (fun p3721 k3721 e3721 t3721 g3721 => ?_)
                      cases e3721
                      refine zSaload (m := 2) (k := 8) vr_60_142 rfl rfl rfl ?_
                      refine zSp0 (pc' := 146) (st' := .int (10) :: _) vr_60_144 rfl rfl ?_
                      refine zSiload (m := 2) (k := 4) vr_60_146 rfl rfl rfl (fun x3724 e3724 => ?_)
                      cases e3724
                      refine zSiload (m := 2) (k := 5) vr_60_148 rfl rfl rfl (fun x3725 e3725 => ?_)
                      cases e3725
                      refine zS2 (f := fun x y => .int (x ||| y)) vr_60_150 rfl rfl (fun x3726 y3726 e3726 f3726 => ?_)
                      cases e3726
                      cases f3726
                      refine zScall vr_60_151 rfl rfl rfl (fun m3727 _ => C_bits _ _ _ _) (fun v3727 h3727 u3727 q3727 => ?_) (fun E3727 h3727 u3727 q3727 => ?_)
                      · obtain ⟨eh3727, z3727⟩ := q3727
                        replace eh3727 := eh3727.symm
                        subst eh3727
                        cases z3727
                        show zL zrx zi _ 60 154 [(8, _), (0, _), (1, _), (2, _), (3, _), (4, _), (5, _), (6, _), (7, _)] [_, _, _] _ _ _
                        refine zS2 (f := fun x y => .int (x * y)) vr_60_154 rfl rfl (fun x3728 y3728 e3728 f3728 => ?_)
                        cases e3728
                        cases f3728
                        refine zSiload (m := 2) (k := 7) vr_60_155 rfl rfl rfl (fun x3729 e3729 => ?_)
                        cases e3729
                        refine zS2 (f := fun x y => .int (x + y)) vr_60_157 rfl rfl (fun x3730 y3730 e3730 f3730 => ?_)
                        cases e3730
                        cases f3730
                        refine zLput vr_60_158 rfl (fun p3731 k3731 e3731 t3731 g3731 => ?_)
                        cases e3731
                        have fr1 : ∀ q k, ¬ q = (31 + cnt.toNatClampNeg) → gF k3731 q k = gF h q k := fun q k z => by
                          rw [g3731.2.1, if_neg (fun y => z y.1), g3721.2.1, if_neg (fun y => z y.1), g3718.2.1, if_neg (fun y => z y.1), g3715.2.1, if_neg (fun y => z y.1), g3712.2.1, if_neg (fun y => z y.1), g3709.2.1, if_neg (fun y => z y.1), g3706.2.1, if_neg (fun y => z y.1), g3703.2.1, if_neg (fun y => z y.1)]
                        refine zSaload (m := 2) (k := 8) vr_60_161 rfl rfl rfl ?_
                        refine zSaload (m := 1) (k := 0) vr_60_163 rfl rfl rfl ?_
                        refine zLget vr_60_164 rfl (fun p3734 w3734 e3734 t3734 g3734 => ?_)
                        cases e3734
                        first | (rw [((fr1 16 9 (by omega)).trans (st_16_9 hS))] at g3734; cases g3734) | skip
                        have gd := g3734
                        rw [fr1 16 0 (by omega)] at gd
                        refine zLput vr_60_167 rfl (fun p3735 k3735 e3735 t3735 g3735 => ?_)
                        cases e3735
                        have fr2 : ∀ q k, ¬ q = (31 + cnt.toNatClampNeg) → gF k3735 q k = gF h q k := fun q k z => by
                          rw [g3735.2.1, if_neg (fun y => z y.1), g3731.2.1, if_neg (fun y => z y.1), g3721.2.1, if_neg (fun y => z y.1), g3718.2.1, if_neg (fun y => z y.1), g3715.2.1, if_neg (fun y => z y.1), g3712.2.1, if_neg (fun y => z y.1), g3709.2.1, if_neg (fun y => z y.1), g3706.2.1, if_neg (fun y => z y.1), g3703.2.1, if_neg (fun y => z y.1)]
                        refine zSaload (m := 1) (k := 0) vr_60_170 rfl rfl rfl ?_
                        refine zLget vr_60_171 rfl (fun p3737 w3737 e3737 t3737 g3737 => ?_)
                        cases e3737
                        first | (rw [((fr2 16 9 (by omega)).trans (st_16_9 hS))] at g3737; cases g3737) | (rw [((fr2 28 2 (by omega)).trans hc)] at g3737; cases g3737) | skip
                        refine zSdup vr_60_174 rfl ?_
                        refine zLget vr_60_175 rfl (fun p3739 w3739 e3739 t3739 g3739 => ?_)
                        cases e3739
                        first | (rw [((fr2 16 9 (by omega)).trans (st_16_9 hS))] at g3739; cases g3739) | (rw [((fr2 28 2 (by omega)).trans hc)] at g3739; cases g3739) | skip
                        refine zSp0 (pc' := 179) (st' := .int (1) :: _) vr_60_178 rfl rfl ?_
                        refine zS2 (f := fun x y => .int (x + y)) vr_60_179 rfl rfl (fun x3741 y3741 e3741 f3741 => ?_)
                        cases e3741
                        cases f3741
                        refine zLput vr_60_180 rfl (fun p3742 k3742 e3742 t3742 g3742 => ?_)
                        cases e3742
                        have fr3 : ∀ q k, ¬ q = (31 + cnt.toNatClampNeg) → ¬ (q = 28 ∧ k = 2) → gF k3742 q k = gF h q k := fun q k z y => by
                          rw [g3742.2.1, if_neg y, fr2 q k z]
                        have cn3 : gF k3742 28 2 = some (.int (cnt + 1)) := by
                          rw [g3742.2.1, if_pos ⟨rfl, rfl⟩]
                        refine zSaload (m := 1) (k := 0) vr_60_183 rfl rfl rfl ?_
                        refine zLget vr_60_184 rfl (fun p3744 w3744 e3744 t3744 g3744 => ?_)
                        cases e3744
                        first | (rw [((fr3 16 9 (by omega) (by omega)).trans (st_16_9 hS))] at g3744; cases g3744) | (rw [cn3] at g3744; cases g3744) | skip
                        refine zLget vr_60_187 rfl (fun p3745 w3745 e3745 t3745 g3745 => ?_)
                        cases e3745
                        first | (rw [((fr3 16 9 (by omega) (by omega)).trans (st_16_9 hS))] at g3745; cases g3745) | (rw [cn3] at g3745; cases g3745) | skip
                        refine zSp0 (pc' := 191) (st' := .int (1) :: _) vr_60_190 rfl rfl ?_
                        refine zS2 (f := fun x y => .int (x - y)) vr_60_191 rfl rfl (fun x3747 y3747 e3747 f3747 => ?_)
                        cases e3747
                        cases f3747
                        refine zLiret vr_60_192 rfl (fun x3748 e3748 => ?_)
                        cases e3748
                        exact ⟨⟨⟨r1, r2⟩, ⟨r3, r4, r5, r6, r7, r8⟩, hcn⟩, ⟨_, rfl⟩, fr3, cn3, ⟨by rw [g3742.2.1, if_neg (by omega), g3735.2.1, if_neg (by omega), g3731.2.1, if_neg (by omega), g3721.2.1, if_neg (by omega), g3718.2.1, if_neg (by omega), g3715.2.1, if_neg (by omega), g3712.2.1, if_neg (by omega), g3709.2.1, if_neg (by omega), g3706.2.1, if_neg (by omega), g3703.2.1, if_pos ⟨rfl, rfl⟩], by rw [g3742.2.1, if_neg (by omega), g3735.2.1, if_neg (by omega), g3731.2.1, if_neg (by omega), g3721.2.1, if_neg (by omega), g3718.2.1, if_neg (by omega), g3715.2.1, if_neg (by omega), g3712.2.1, if_neg (by omega), g3709.2.1, if_neg (by omega), g3706.2.1, if_pos ⟨rfl, rfl⟩], by rw [g3742.2.1, if_neg (by omega), g3735.2.1, if_neg (by omega), g3731.2.1, if_neg (by omega), g3721.2.1, if_neg (by omega), g3718.2.1, if_neg (by omega), g3715.2.1, if_neg (by omega), g3712.2.1, if_neg (by omega), g3709.2.1, if_pos ⟨rfl, rfl⟩], by rw [g3742.2.1, if_neg (by omega), g3735.2.1, if_neg (by omega), g3731.2.1, if_neg (by omega), g3721.2.1, if_neg (by omega), g3718.2.1, if_neg (by omega), g3715.2.1, if_neg (by omega), g3712.2.1, if_pos ⟨rfl, rfl⟩], by rw [g3742.2.1, if_neg (by omega), g3735.2.1, if_neg (by omega), g3731.2.1, if_neg (by omega), g3721.2.1, if_neg (by omega), g3718.2.1, if_neg (by omega), g3715.2.1, if_pos ⟨rfl, rfl⟩], by rw [g3742.2.1, if_neg (by omega), g3735.2.1, if_neg (by omega), g3731.2.1, if_neg (by omega), g3721.2.1, if_neg (by omega), g3718.2.1, if_pos ⟨rfl, rfl⟩], by rw [g3742.2.1, if_neg (by omega), g3735.2.1, if_neg (by omega), g3731.2.1, if_neg (by omega), g3721.2.1, if_pos ⟨rfl, rfl⟩]⟩, by rw [g3742.2.1, if_neg (by omega), g3735.2.1, if_neg (by omega), g3731.2.1, if_pos ⟨rfl, rfl⟩], Eq.trans (by rw [g3742.2.1, if_neg (by omega), g3735.2.1, if_pos ⟨rfl, rfl⟩]) gd.symm, by rw [g3742.2.1, if_neg (by omega), g3735.2.1, if_neg (by omega), g3731.2.1, if_neg (by omega), g3721.2.1, if_neg (by omega), g3718.2.1, if_neg (by omega), g3715.2.1, if_neg (by omega), g3712.2.1, if_neg (by omega), g3709.2.1, if_neg (by omega), g3706.2.1, if_neg (by omega), g3703.2.1, if_neg (by omega)], by rw [g3742.2.1, if_neg (by omega), g3735.2.1, if_neg (by omega), g3731.2.1, if_neg (by omega), g3721.2.1, if_neg (by omega), g3718.2.1, if_neg (by omega), g3715.2.1, if_neg (by omega), g3712.2.1, if_neg (by omega), g3709.2.1, if_neg (by omega), g3706.2.1, if_neg (by omega), g3703.2.1, if_neg (by omega)], by rw [g3742.1, g3735.1, g3731.1, g3721.1, g3718.1, g3715.1, g3712.1, g3709.1, g3706.1, g3703.1], fun p => ⟨by rw [g3742.2.2.1, g3735.2.2.1, g3731.2.2.1, g3721.2.2.1, g3718.2.2.1, g3715.2.2.1, g3712.2.2.1, g3709.2.2.1, g3706.2.2.1, g3703.2.2.1], by rw [g3742.2.2.2, g3735.2.2.2, g3731.2.2.2, g3721.2.2.2, g3718.2.2.2, g3715.2.2.2, g3712.2.2.2, g3709.2.2.2, g3706.2.2.2, g3703.2.2.2]⟩⟩
                      · obtain ⟨-, z⟩ := q3727
                        cases z
                    · obtain ⟨-, z, -⟩ := q3692
                      exact absurd z (by decide)
                · obtain ⟨rfl, q1, q2⟩ := q3684
                  rw [zCat_no vh_60_56_1]
                  exact ⟨Or.inr (Or.inl rfl), q2, fun z => q1 z.2.1.2.2.2.2.2⟩
              · obtain ⟨rfl, q1, q2⟩ := q3680
                rw [zCat_no vh_60_49_1]
                exact ⟨Or.inr (Or.inl rfl), q2, fun z => q1 z.2.1.2.2.2.2.1⟩
            · obtain ⟨rfl, q1, q2⟩ := q3676
              rw [zCat_no vh_60_41_1]
              exact ⟨Or.inr (Or.inl rfl), q2, fun z => q1 z.2.1.2.2.2.1⟩
          · obtain ⟨rfl, q1, q2⟩ := q3670
            rw [zCat_no vh_60_31_1]
            exact ⟨Or.inr (Or.inl rfl), q2, fun z => q1 z.2.1.2.2.1⟩
        · obtain ⟨rfl, q1, q2⟩ := q3666
          rw [zCat_no vh_60_23_1]
          exact ⟨Or.inr (Or.inl rfl), q2, fun z => q1 z.2.1.2.1⟩
      · obtain ⟨rfl, q1, q2⟩ := q3662
        rw [zCat_no vh_60_15_1]
        exact ⟨Or.inr (Or.inl rfl), q2, fun z => q1 z.2.1.1⟩
    · obtain ⟨rfl, q1, q2⟩ := q3658
      rw [zCat_no vh_60_8_0]
      exact ⟨Or.inl rfl, q2, fun z => q1 z.1.2⟩
  · obtain ⟨rfl, q1, q2⟩ := q3655
    rw [zCat_no vh_60_3_0]
    exact ⟨Or.inl rfl, q2, fun z => q1 z.1.1⟩
abbrev Q_Lrule (cnt : Int32) (p m c a b s r : Int32) (h : List zC) : zK := fun o h2 _ => ∃ k : Int32, o = .inl (some (.int k)) ∧ ((k = 0 ∧ okR p m c a b s r cnt ∧ ∃ (h1 : List zC) (w : Value), RM h h1 (31 + cnt.toNatClampNeg) cnt p m c a b s r ∧ hPut h1 h2 238 0 w) ∨ (¬ k = 0 ∧ ¬ okR p m c a b s r cnt ∧ hExt h h2))
theorem C_Lrule (n : Nat) (p m c a b s r : Int32) (h : List zC) (u : Nat) {cnt : Int32} (hS : Stc h) (hc : gF h 28 2 = some (.int cnt)) : zL zrx zi n 211 0 [(0, .ref 16), (1, .int p), (2, .int m), (3, .int c), (4, .int a), (5, .int b), (6, .int s), (7, .int r), (8, .ref 238)] [] h u (Q_Lrule cnt p m c a b s r h) := by
  refine zSaload (m := 2) (k := 8) vr_211_0 rfl rfl rfl ?_
  refine zSaload (m := 1) (k := 0) vr_211_2 rfl rfl rfl ?_
  refine zSiload (m := 1) (k := 1) vr_211_3 rfl rfl rfl (fun x3751 e3751 => ?_)
  cases e3751
  refine zSiload (m := 1) (k := 2) vr_211_4 rfl rfl rfl (fun x3752 e3752 => ?_)
  cases e3752
  refine zSiload (m := 1) (k := 3) vr_211_5 rfl rfl rfl (fun x3753 e3753 => ?_)
  cases e3753
  refine zSiload (m := 2) (k := 4) vr_211_6 rfl rfl rfl (fun x3754 e3754 => ?_)
  cases e3754
  refine zSiload (m := 2) (k := 5) vr_211_8 rfl rfl rfl (fun x3755 e3755 => ?_)
  cases e3755
  refine zSiload (m := 2) (k := 6) vr_211_10 rfl rfl rfl (fun x3756 e3756 => ?_)
  cases e3756
  refine zSiload (m := 2) (k := 7) vr_211_12 rfl rfl rfl (fun x3757 e3757 => ?_)
  cases e3757
  refine zScall vr_211_14 rfl rfl rfl (fun m3758 _ => C_rule _ _ _ _ _ _ _ _ _ _ hS hc) (fun v3758 h3758 u3758 q3758 => ?_) (fun E3758 h3758 u3758 q3758 => ?_)
  · obtain ⟨k1, ⟨x3758, rfl⟩, k2⟩ := q3758
    show zL zrx zi _ 211 17 [(0, _), (1, _), (2, _), (3, _), (4, _), (5, _), (6, _), (7, _), (8, _)] [_, _] _ _ _
    refine zS1 (f := fun x => .long x.toInt64) vr_211_17 rfl rfl (fun x3759 e3759 => ?_)
    cases e3759
    refine zLput vr_211_18 rfl (fun p3760 k3760 e3760 t3760 g3760 => ?_)
    cases e3760
    have gP := g3760
    refine zSgo (t := 36) vr_211_21 rfl rfl ?_
    refine zSp0 (pc' := 37) (st' := .int (0) :: _) vr_211_36 rfl rfl ?_
    refine zLiret vr_211_37 rfl (fun x3763 e3763 => ?_)
    cases e3763
    exact ⟨_, rfl, Or.inl ⟨rfl, k1, _, _, k2, gP⟩⟩
  · obtain ⟨e, q1, z⟩ := q3758
    rcases e with rfl | rfl | rfl
    · rw [zCat_hit (k := 9) (m := 2) vh_211_14_0 vr_211_24 rfl (by decide)]
      show zL zrx zi _ 211 26 [(0, _), (1, _), (2, _), (3, _), (4, _), (5, _), (6, _), (7, _), (8, _)] [] _ _ _
      refine zSp0 (pc' := 27) (st' := .int (1) :: _) vr_211_26 rfl rfl ?_
      refine zLiret vr_211_27 rfl (fun x3765 e3765 => ?_)
      cases e3765
      exact ⟨_, rfl, Or.inr ⟨by decide, z, q1⟩⟩
    · rw [zCat_hit (k := 9) (m := 2) vh_211_14_1 vr_211_28 rfl (by decide)]
      show zL zrx zi _ 211 30 [(0, _), (1, _), (2, _), (3, _), (4, _), (5, _), (6, _), (7, _), (8, _)] [] _ _ _
      refine zSp0 (pc' := 31) (st' := .int (2) :: _) vr_211_30 rfl rfl ?_
      refine zLiret vr_211_31 rfl (fun x3767 e3767 => ?_)
      cases e3767
      exact ⟨_, rfl, Or.inr ⟨by decide, z, q1⟩⟩
    · rw [zCat_hit (k := 9) (m := 2) vh_211_14_2 vr_211_32 rfl (by decide)]
      show zL zrx zi _ 211 34 [(0, _), (1, _), (2, _), (3, _), (4, _), (5, _), (6, _), (7, _), (8, _)] [] _ _ _
      refine zSp0 (pc' := 35) (st' := .int (3) :: _) vr_211_34 rfl rfl ?_
      refine zLiret vr_211_35 rfl (fun x3769 e3769 => ?_)
      cases e3769
      exact ⟨_, rfl, Or.inr ⟨by decide, z, q1⟩⟩
theorem C_irule (n : Nat) (q : Nat) (p m c a b s r d : Int32) (h : List zC) (u : Nat) : zL zrx zi n 126 0 [(0, .ref q), (1, .int p), (2, .int m), (3, .int c), (4, .int a), (5, .int b), (6, .int s), (7, .int r), (8, .int d)] [] h u (fun o h2 _ => o = .inl none ∧ IM h h2 q p m c a b s r d) := by
  refine zSaload (m := 1) (k := 0) vr_126_0 rfl rfl rfl ?_
  refine zSobj vr_126_1 rfl ?_
  refine zSaload (m := 1) (k := 0) vr_126_4 rfl rfl rfl ?_
  refine zSp0 (pc' := 8) (st' := .int (999) :: _) vr_126_5 rfl rfl ?_
  refine zLput vr_126_8 rfl (fun p3774 k3774 e3774 t3774 g3774 => ?_)
  cases e3774
  refine zSaload (m := 1) (k := 0) vr_126_11 rfl rfl rfl ?_
  refine zSiload (m := 1) (k := 1) vr_126_12 rfl rfl rfl (fun x3776 e3776 => ?_)
  cases e3776
  refine zLput vr_126_13 rfl (fun p3777 k3777 e3777 t3777 g3777 => ?_)
  cases e3777
  refine zSaload (m := 1) (k := 0) vr_126_16 rfl rfl rfl ?_
  refine zSiload (m := 1) (k := 2) vr_126_17 rfl rfl rfl (fun x3779 e3779 => ?_)
  cases e3779
  refine zLput vr_126_18 rfl (fun p3780 k3780 e3780 t3780 g3780 => ?_)
  cases e3780
  refine zSaload (m := 1) (k := 0) vr_126_21 rfl rfl rfl ?_
  refine zSiload (m := 1) (k := 3) vr_126_22 rfl rfl rfl (fun x3782 e3782 => ?_)
  cases e3782
  refine zLput vr_126_23 rfl (fun p3783 k3783 e3783 t3783 g3783 => ?_)
  cases e3783
  refine zSaload (m := 1) (k := 0) vr_126_26 rfl rfl rfl ?_
  refine zSiload (m := 2) (k := 4) vr_126_27 rfl rfl rfl (fun x3785 e3785 => ?_)
  cases e3785
  refine zLput vr_126_29 rfl (fun p3786 k3786 e3786 t3786 g3786 => ?_)
  cases e3786
  refine zSaload (m := 1) (k := 0) vr_126_32 rfl rfl rfl ?_
  refine zSiload (m := 2) (k := 5) vr_126_33 rfl rfl rfl (fun x3788 e3788 => ?_)
  cases e3788
  refine zLput vr_126_35 rfl (fun p3789 k3789 e3789 t3789 g3789 => ?_)
  cases e3789
  refine zSaload (m := 1) (k := 0) vr_126_38 rfl rfl rfl ?_
  refine zSiload (m := 2) (k := 6) vr_126_39 rfl rfl rfl (fun x3791 e3791 => ?_)
  cases e3791
  refine zLput vr_126_41 rfl (fun p3792 k3792 e3792 t3792 g3792 => ?_)
  cases e3792
  refine zSaload (m := 1) (k := 0) vr_126_44 rfl rfl rfl ?_
  refine zSiload (m := 2) (k := 7) vr_126_45 rfl rfl rfl (fun x3794 e3794 => ?_)
  cases e3794
  refine zLput vr_126_47 rfl (fun p3795 k3795 e3795 t3795 g3795 => ?_)
  cases e3795
  refine zSaload (m := 1) (k := 0) vr_126_50 rfl rfl rfl ?_
  refine zSiload (m := 2) (k := 8) vr_126_51 rfl rfl rfl (fun x3797 e3797 => ?_)
  cases e3797
  refine zLput vr_126_53 rfl (fun p3798 k3798 e3798 t3798 g3798 => ?_)
  cases e3798
  refine zSvoid vr_126_56 rfl ?_
  exact ⟨rfl, fun x k z => by rw [g3798.2.1, if_neg (fun y => z y.1), g3795.2.1, if_neg (fun y => z y.1), g3792.2.1, if_neg (fun y => z y.1), g3789.2.1, if_neg (fun y => z y.1), g3786.2.1, if_neg (fun y => z y.1), g3783.2.1, if_neg (fun y => z y.1), g3780.2.1, if_neg (fun y => z y.1), g3777.2.1, if_neg (fun y => z y.1), g3774.2.1, if_neg (fun y => z y.1)], ⟨by rw [g3798.2.1, if_neg (by omega), g3795.2.1, if_neg (by omega), g3792.2.1, if_neg (by omega), g3789.2.1, if_neg (by omega), g3786.2.1, if_neg (by omega), g3783.2.1, if_neg (by omega), g3780.2.1, if_neg (by omega), g3777.2.1, if_pos ⟨rfl, rfl⟩], by rw [g3798.2.1, if_neg (by omega), g3795.2.1, if_neg (by omega), g3792.2.1, if_neg (by omega), g3789.2.1, if_neg (by omega), g3786.2.1, if_neg (by omega), g3783.2.1, if_neg (by omega), g3780.2.1, if_pos ⟨rfl, rfl⟩], by rw [g3798.2.1, if_neg (by omega), g3795.2.1, if_neg (by omega), g3792.2.1, if_neg (by omega), g3789.2.1, if_neg (by omega), g3786.2.1, if_neg (by omega), g3783.2.1, if_pos ⟨rfl, rfl⟩], by rw [g3798.2.1, if_neg (by omega), g3795.2.1, if_neg (by omega), g3792.2.1, if_neg (by omega), g3789.2.1, if_neg (by omega), g3786.2.1, if_pos ⟨rfl, rfl⟩], by rw [g3798.2.1, if_neg (by omega), g3795.2.1, if_neg (by omega), g3792.2.1, if_neg (by omega), g3789.2.1, if_pos ⟨rfl, rfl⟩], by rw [g3798.2.1, if_neg (by omega), g3795.2.1, if_neg (by omega), g3792.2.1, if_pos ⟨rfl, rfl⟩], by rw [g3798.2.1, if_neg (by omega), g3795.2.1, if_pos ⟨rfl, rfl⟩], by rw [g3798.2.1, if_pos ⟨rfl, rfl⟩]⟩, by rw [g3798.2.1, if_neg (by omega), g3795.2.1, if_neg (by omega), g3792.2.1, if_neg (by omega), g3789.2.1, if_neg (by omega), g3786.2.1, if_neg (by omega), g3783.2.1, if_neg (by omega), g3780.2.1, if_neg (by omega), g3777.2.1, if_neg (by omega), g3774.2.1, if_neg (by omega)], by rw [g3798.2.1, if_neg (by omega), g3795.2.1, if_neg (by omega), g3792.2.1, if_neg (by omega), g3789.2.1, if_neg (by omega), g3786.2.1, if_neg (by omega), g3783.2.1, if_neg (by omega), g3780.2.1, if_neg (by omega), g3777.2.1, if_neg (by omega), g3774.2.1, if_pos ⟨rfl, rfl⟩], by rw [g3798.1, g3795.1, g3792.1, g3789.1, g3786.1, g3783.1, g3780.1, g3777.1, g3774.1], fun p => ⟨by rw [g3798.2.2.1, g3795.2.2.1, g3792.2.2.1, g3789.2.2.1, g3786.2.2.1, g3783.2.2.1, g3780.2.2.1, g3777.2.2.1, g3774.2.2.1], by rw [g3798.2.2.2, g3795.2.2.2, g3792.2.2.2, g3789.2.2.2, g3786.2.2.2, g3783.2.2.2, g3780.2.2.2, g3777.2.2.2, g3774.2.2.2]⟩⟩
abbrev Q_mrule (el : Nat) (cnt d : Int32) (p m c a b s r : Int32) (h : List zC) : zK := fun o h2 _ => ∃ (x : Int32) (h0 : List zC), o = .inl (some (.int x)) ∧ hPut h h0 213 0 (.int 0) ∧ ((okR p m c a b s r cnt ∧ MM h h2 el cnt p m c a b s r d) ∨ (¬ okR p m c a b s r cnt ∧ ∃ k : Int32, ¬ k = 0 ∧ hPut h0 h2 213 0 (.int k)))
theorem C_mrule (n : Nat) (p m c a b s r : Int32) (h : List zC) (u : Nat) {el l : Nat} {cnt : Int32} (hS : Stc h) (hs : gF h 223 2 = some (.int cnt)) (hL : gF h 223 1 = some (.ref el)) (hn : gN h el = some l) (hl2 : l < 2147483648) (tE : ∃ t, gT h el = some t ∧ 93 ≤ t) (h40 : cnt.toInt ≤ 40) (h213 : ¬ el = 213) {d : Int32} (hd : gF h 213 1 = some (.int d)) : zL zrx zi n 153 0 [(0, .ref 213), (1, .int p), (2, .int m), (3, .int c), (4, .int a), (5, .int b), (6, .int s), (7, .int r)] [] h u (Q_mrule el cnt d p m c a b s r h) := by
  refine zSaload (m := 1) (k := 0) vr_153_0 rfl rfl rfl ?_
  refine zSp0 (pc' := 2) (st' := .int (0) :: _) vr_153_1 rfl rfl ?_
  refine zLput vr_153_2 rfl (fun p3802 k3802 e3802 t3802 g3802 => ?_)
  cases e3802
  have t0 := g3802
  have hS0 := hS.thr t0
  have f0 : ∀ q k, ¬ (q = 213 ∧ k = 0) → gF k3802 q k = gF h q k := fun q k z => by rw [t0.2.1, if_neg z]
  have hs0 := (f0 223 2 (by omega)).trans hs
  refine zSiload (m := 1) (k := 1) vr_153_5 rfl rfl rfl (fun x3803 e3803 => ?_)
  cases e3803
  refine zSp0 (pc' := 7) (st' := .int (0) :: _) vr_153_6 rfl rfl ?_
  refine zSp0 (pc' := 8) (st' := .int (5) :: _) vr_153_7 rfl rfl ?_
  refine zScall vr_153_8 rfl rfl rfl (fun m3806 _ => C_in _ _ _ _ _ _) (fun v3806 h3806 u3806 q3806 => ?_) (fun E3806 h3806 u3806 q3806 => ?_)
  · obtain ⟨eh3806, z3806⟩ := q3806
    replace eh3806 := eh3806.symm
    subst eh3806
    cases z3806
    show zL zrx zi _ 153 11 [(0, _), (1, _), (2, _), (3, _), (4, _), (5, _), (6, _), (7, _)] [_] _ _ _
    refine zSb1 (f := fun x => decide (x = 0)) (off := 12) (t := 23) vr_153_11 rfl rfl rfl (fun x3807 e3807 q3807 => ?_) (fun x3807 e3807 q3807 => ?_)
    · cases e3807
      refine zSaload (m := 1) (k := 0) vr_153_23 rfl rfl rfl ?_
      refine zSp0 (pc' := 25) (st' := .int (1) :: _) vr_153_24 rfl rfl ?_
      refine zScall vr_153_25 rfl rfl rfl (fun m3810 _ => C_no _ _ _ _ _) (fun v3810 h3810 u3810 q3810 => ?_) (fun E3810 h3810 u3810 q3810 => ?_)
      · obtain ⟨gn3810, z3810⟩ := q3810
        cases z3810
        show zL zrx zi _ 153 28 [(0, _), (1, _), (2, _), (3, _), (4, _), (5, _), (6, _), (7, _)] [_] _ _ _
        refine zLiret vr_153_28 rfl (fun x3811 e3811 => ?_)
        cases e3811
        first
          | exact ⟨_, _, rfl, t0, Or.inr ⟨fun z => in_n (x := p) (hi := 5) (m := 6) (by decide) (of_decide_eq_true q3807) z.1.1, _, by decide, gn3810⟩⟩
          | exact ⟨_, _, rfl, t0, Or.inr ⟨fun z => in_n (x := m) (hi := 3) (m := 4) (by decide) (by simpa using q3664) z.1.2, _, by decide, gn3810⟩⟩
      · obtain ⟨-, z⟩ := q3810
        cases z
    · cases e3807
      refine zSiload (m := 1) (k := 2) vr_153_14 rfl rfl rfl (fun x3812 e3812 => ?_)
      cases e3812
      refine zSp0 (pc' := 16) (st' := .int (0) :: _) vr_153_15 rfl rfl ?_
      refine zSp0 (pc' := 17) (st' := .int (3) :: _) vr_153_16 rfl rfl ?_
      refine zScall vr_153_17 rfl rfl rfl (fun m3815 _ => C_in _ _ _ _ _ _) (fun v3815 h3815 u3815 q3815 => ?_) (fun E3815 h3815 u3815 q3815 => ?_)
      · obtain ⟨eh3815, z3815⟩ := q3815
        replace eh3815 := eh3815.symm
        subst eh3815
        cases z3815
        show zL zrx zi _ 153 20 [(0, _), (1, _), (2, _), (3, _), (4, _), (5, _), (6, _), (7, _)] [_] _ _ _
        refine zSb1 (f := fun x => decide (¬ x = 0)) (off := 9) (t := 29) vr_153_20 rfl rfl rfl (fun x3816 e3816 q3816 => ?_) (fun x3816 e3816 q3816 => ?_)
        · cases e3816
          refine zSiload (m := 1) (k := 3) vr_153_29 rfl rfl rfl (fun x3817 e3817 => ?_)
          cases e3817
          refine zSp0 (pc' := 31) (st' := .int (1) :: _) vr_153_30 rfl rfl ?_
          refine zSp0 (pc' := 33) (st' := .int (15) :: _) vr_153_31 rfl rfl ?_
          refine zScall vr_153_33 rfl rfl rfl (fun m3820 _ => C_in _ _ _ _ _ _) (fun v3820 h3820 u3820 q3820 => ?_) (fun E3820 h3820 u3820 q3820 => ?_)
          · obtain ⟨eh3820, z3820⟩ := q3820
            replace eh3820 := eh3820.symm
            subst eh3820
            cases z3820
            show zL zrx zi _ 153 36 [(0, _), (1, _), (2, _), (3, _), (4, _), (5, _), (6, _), (7, _)] [_] _ _ _
            refine zSb1 (f := fun x => decide (x = 0)) (off := 54) (t := 90) vr_153_36 rfl rfl rfl (fun x3821 e3821 q3821 => ?_) (fun x3821 e3821 q3821 => ?_)
            · cases e3821
              refine zSaload (m := 1) (k := 0) vr_153_90 rfl rfl rfl ?_
              refine zSp0 (pc' := 92) (st' := .int (2) :: _) vr_153_91 rfl rfl ?_
              refine zScall vr_153_92 rfl rfl rfl (fun m3824 _ => C_no _ _ _ _ _) (fun v3824 h3824 u3824 q3824 => ?_) (fun E3824 h3824 u3824 q3824 => ?_)
              · obtain ⟨gn3824, z3824⟩ := q3824
                cases z3824
                show zL zrx zi _ 153 95 [(0, _), (1, _), (2, _), (3, _), (4, _), (5, _), (6, _), (7, _)] [_] _ _ _
                refine zLiret vr_153_95 rfl (fun x3825 e3825 => ?_)
                cases e3825
                first
                  | exact ⟨_, _, rfl, t0, Or.inr ⟨fun z => inB_n (of_decide_eq_true q3821) z.2.1.1, _, by decide, gn3824⟩⟩
                  | exact ⟨_, _, rfl, t0, Or.inr ⟨fun z => inB_n (of_decide_eq_true q3795) z.2.1.2.1, _, by decide, gn3824⟩⟩
                  | exact ⟨_, _, rfl, t0, Or.inr ⟨fun z => inB_n (of_decide_eq_true q3437) z.2.1.2.2.1, _, by decide, gn3824⟩⟩
                  | exact ⟨_, _, rfl, t0, Or.inr ⟨fun z => (of_decide_eq_true q3688) (rI0.mp z.2.1.2.2.2.1), _, by decide, gn3824⟩⟩
                  | exact ⟨_, _, rfl, t0, Or.inr ⟨fun z => inB_n (of_decide_eq_true q3380) z.2.1.2.2.2.2.1, _, by decide, gn3824⟩⟩
                  | exact ⟨_, _, rfl, t0, Or.inr ⟨fun z => inB_n (by simpa using q3697) z.2.1.2.2.2.2.2, _, by decide, gn3824⟩⟩
              · obtain ⟨-, z⟩ := q3824
                cases z
            · cases e3821
              refine zSiload (m := 2) (k := 4) vr_153_39 rfl rfl rfl (fun x3826 e3826 => ?_)
              cases e3826
              refine zSp0 (pc' := 42) (st' := .int (0) :: _) vr_153_41 rfl rfl ?_
              refine zSp0 (pc' := 44) (st' := .int (63) :: _) vr_153_42 rfl rfl ?_
              refine zScall vr_153_44 rfl rfl rfl (fun m3829 _ => C_in _ _ _ _ _ _) (fun v3829 h3829 u3829 q3829 => ?_) (fun E3829 h3829 u3829 q3829 => ?_)
              · obtain ⟨eh3829, z3829⟩ := q3829
                replace eh3829 := eh3829.symm
                subst eh3829
                cases z3829
                show zL zrx zi _ 153 47 [(0, _), (1, _), (2, _), (3, _), (4, _), (5, _), (6, _), (7, _)] [_] _ _ _
                refine zSb1 (f := fun x => decide (x = 0)) (off := 43) (t := 90) vr_153_47 rfl rfl rfl (fun x3830 e3830 q3830 => ?_) (fun x3830 e3830 q3830 => ?_)
                · cases e3830
                  refine zSaload (m := 1) (k := 0) vr_153_90 rfl rfl rfl ?_
                  refine zSp0 (pc' := 92) (st' := .int (2) :: _) vr_153_91 rfl rfl ?_
                  refine zScall vr_153_92 rfl rfl rfl (fun m3833 _ => C_no _ _ _ _ _) (fun v3833 h3833 u3833 q3833 => ?_) (fun E3833 h3833 u3833 q3833 => ?_)
                  · obtain ⟨gn3833, z3833⟩ := q3833
                    cases z3833
                    show zL zrx zi _ 153 95 [(0, _), (1, _), (2, _), (3, _), (4, _), (5, _), (6, _), (7, _)] [_] _ _ _
                    refine zLiret vr_153_95 rfl (fun x3834 e3834 => ?_)
                    cases e3834
                    first
                      | exact ⟨_, _, rfl, t0, Or.inr ⟨fun z => inB_n (of_decide_eq_true q3821) z.2.1.1, _, by decide, gn3833⟩⟩
                      | exact ⟨_, _, rfl, t0, Or.inr ⟨fun z => inB_n (of_decide_eq_true q3830) z.2.1.2.1, _, by decide, gn3833⟩⟩
                      | exact ⟨_, _, rfl, t0, Or.inr ⟨fun z => inB_n (of_decide_eq_true q3437) z.2.1.2.2.1, _, by decide, gn3833⟩⟩
                      | exact ⟨_, _, rfl, t0, Or.inr ⟨fun z => (of_decide_eq_true q3688) (rI0.mp z.2.1.2.2.2.1), _, by decide, gn3833⟩⟩
                      | exact ⟨_, _, rfl, t0, Or.inr ⟨fun z => inB_n (of_decide_eq_true q3380) z.2.1.2.2.2.2.1, _, by decide, gn3833⟩⟩
                      | exact ⟨_, _, rfl, t0, Or.inr ⟨fun z => inB_n (by simpa using q3697) z.2.1.2.2.2.2.2, _, by decide, gn3833⟩⟩
                  · obtain ⟨-, z⟩ := q3833
                    cases z
                · cases e3830
                  refine zSiload (m := 2) (k := 5) vr_153_50 rfl rfl rfl (fun x3835 e3835 => ?_)
                  cases e3835
                  refine zSp0 (pc' := 53) (st' := .int (0) :: _) vr_153_52 rfl rfl ?_
                  refine zSp0 (pc' := 55) (st' := .int (63) :: _) vr_153_53 rfl rfl ?_
                  refine zScall vr_153_55 rfl rfl rfl (fun m3838 _ => C_in _ _ _ _ _ _) (fun v3838 h3838 u3838 q3838 => ?_) (fun E3838 h3838 u3838 q3838 => ?_)
                  · obtain ⟨eh3838, z3838⟩ := q3838
                    replace eh3838 := eh3838.symm
                    subst eh3838
                    cases z3838
                    show zL zrx zi _ 153 58 [(0, _), (1, _), (2, _), (3, _), (4, _), (5, _), (6, _), (7, _)] [_] _ _ _
                    refine zSb1 (f := fun x => decide (x = 0)) (off := 32) (t := 90) vr_153_58 rfl rfl rfl (fun x3839 e3839 q3839 => ?_) (fun x3839 e3839 q3839 => ?_)
                    · cases e3839
                      refine zSaload (m := 1) (k := 0) vr_153_90 rfl rfl rfl ?_
                      refine zSp0 (pc' := 92) (st' := .int (2) :: _) vr_153_91 rfl rfl ?_
                      refine zScall vr_153_92 rfl rfl rfl (fun m3842 _ => C_no _ _ _ _ _) (fun v3842 h3842 u3842 q3842 => ?_) (fun E3842 h3842 u3842 q3842 => ?_)
                      · obtain ⟨gn3842, z3842⟩ := q3842
                        cases z3842
                        show zL zrx zi _ 153 95 [(0, _), (1, _), (2, _), (3, _), (4, _), (5, _), (6, _), (7, _)] [_] _ _ _
                        refine zLiret vr_153_95 rfl (fun x3843 e3843 => ?_)
                        cases e3843
                        first
                          | exact ⟨_, _, rfl, t0, Or.inr ⟨fun z => inB_n (of_decide_eq_true q3821) z.2.1.1, _, by decide, gn3842⟩⟩
                          | exact ⟨_, _, rfl, t0, Or.inr ⟨fun z => inB_n (of_decide_eq_true q3830) z.2.1.2.1, _, by decide, gn3842⟩⟩
                          | exact ⟨_, _, rfl, t0, Or.inr ⟨fun z => inB_n (of_decide_eq_true q3839) z.2.1.2.2.1, _, by decide, gn3842⟩⟩
                          | exact ⟨_, _, rfl, t0, Or.inr ⟨fun z => (of_decide_eq_true q3688) (rI0.mp z.2.1.2.2.2.1), _, by decide, gn3842⟩⟩
                          | exact ⟨_, _, rfl, t0, Or.inr ⟨fun z => inB_n (of_decide_eq_true q3380) z.2.1.2.2.2.2.1, _, by decide, gn3842⟩⟩
                          | exact ⟨_, _, rfl, t0, Or.inr ⟨fun z => inB_n (by simpa using q3697) z.2.1.2.2.2.2.2, _, by decide, gn3842⟩⟩
                      · obtain ⟨-, z⟩ := q3842
                        cases z
                    · cases e3839
                      refine zSiload (m := 2) (k := 4) vr_153_61 rfl rfl rfl (fun x3844 e3844 => ?_)
                      cases e3844
                      refine zSiload (m := 2) (k := 5) vr_153_63 rfl rfl rfl (fun x3845 e3845 => ?_)
                      cases e3845
                      refine zS2 (f := fun x y => .int (x &&& y)) vr_153_65 rfl rfl (fun x3846 y3846 e3846 f3846 => ?_)
                      cases e3846
                      cases f3846
                      refine zSb1 (f := fun x => decide (¬ x = 0)) (off := 24) (t := 90) vr_153_66 rfl rfl rfl (fun x3847 e3847 q3847 => ?_) (fun x3847 e3847 q3847 => ?_)
                      · cases e3847
                        refine zSaload (m := 1) (k := 0) vr_153_90 rfl rfl rfl ?_
                        refine zSp0 (pc' := 92) (st' := .int (2) :: _) vr_153_91 rfl rfl ?_
                        refine zScall vr_153_92 rfl rfl rfl (fun m3850 _ => C_no _ _ _ _ _) (fun v3850 h3850 u3850 q3850 => ?_) (fun E3850 h3850 u3850 q3850 => ?_)
                        · obtain ⟨gn3850, z3850⟩ := q3850
                          cases z3850
                          show zL zrx zi _ 153 95 [(0, _), (1, _), (2, _), (3, _), (4, _), (5, _), (6, _), (7, _)] [_] _ _ _
                          refine zLiret vr_153_95 rfl (fun x3851 e3851 => ?_)
                          cases e3851
                          first
                            | exact ⟨_, _, rfl, t0, Or.inr ⟨fun z => inB_n (of_decide_eq_true q3821) z.2.1.1, _, by decide, gn3850⟩⟩
                            | exact ⟨_, _, rfl, t0, Or.inr ⟨fun z => inB_n (of_decide_eq_true q3830) z.2.1.2.1, _, by decide, gn3850⟩⟩
                            | exact ⟨_, _, rfl, t0, Or.inr ⟨fun z => inB_n (of_decide_eq_true q3839) z.2.1.2.2.1, _, by decide, gn3850⟩⟩
                            | exact ⟨_, _, rfl, t0, Or.inr ⟨fun z => (of_decide_eq_true q3847) (rI0.mp z.2.1.2.2.2.1), _, by decide, gn3850⟩⟩
                            | exact ⟨_, _, rfl, t0, Or.inr ⟨fun z => inB_n (of_decide_eq_true q3380) z.2.1.2.2.2.2.1, _, by decide, gn3850⟩⟩
                            | exact ⟨_, _, rfl, t0, Or.inr ⟨fun z => inB_n (by simpa using q3697) z.2.1.2.2.2.2.2, _, by decide, gn3850⟩⟩
                        · obtain ⟨-, z⟩ := q3850
                          cases z
                      · cases e3847
                        refine zSiload (m := 2) (k := 6) vr_153_69 rfl rfl rfl (fun x3852 e3852 => ?_)
                        cases e3852
                        refine zSp0 (pc' := 72) (st' := .int (0) :: _) vr_153_71 rfl rfl ?_
                        refine zSp0 (pc' := 74) (st' := .int (100) :: _) vr_153_72 rfl rfl ?_
                        refine zScall vr_153_74 rfl rfl rfl (fun m3855 _ => C_in _ _ _ _ _ _) (fun v3855 h3855 u3855 q3855 => ?_) (fun E3855 h3855 u3855 q3855 => ?_)
                        · obtain ⟨eh3855, z3855⟩ := q3855
                          replace eh3855 := eh3855.symm
                          subst eh3855
                          cases z3855
                          show zL zrx zi _ 153 77 [(0, _), (1, _), (2, _), (3, _), (4, _), (5, _), (6, _), (7, _)] [_] _ _ _
                          refine zSb1 (f := fun x => decide (x = 0)) (off := 13) (t := 90) vr_153_77 rfl rfl rfl (fun x3856 e3856 q3856 => ?_) (fun x3856 e3856 q3856 => ?_)
                          · cases e3856
                            refine zSaload (m := 1) (k := 0) vr_153_90 rfl rfl rfl ?_
                            refine zSp0 (pc' := 92) (st' := .int (2) :: _) vr_153_91 rfl rfl ?_
                            refine zScall vr_153_92 rfl rfl rfl (fun m3859 _ => C_no _ _ _ _ _) (fun v3859 h3859 u3859 q3859 => ?_) (fun E3859 h3859 u3859 q3859 => ?_)
                            · obtain ⟨gn3859, z3859⟩ := q3859
                              cases z3859
                              show zL zrx zi _ 153 95 [(0, _), (1, _), (2, _), (3, _), (4, _), (5, _), (6, _), (7, _)] [_] _ _ _
                              refine zLiret vr_153_95 rfl (fun x3860 e3860 => ?_)
                              cases e3860
                              first
                                | exact ⟨_, _, rfl, t0, Or.inr ⟨fun z => inB_n (of_decide_eq_true q3821) z.2.1.1, _, by decide, gn3859⟩⟩
                                | exact ⟨_, _, rfl, t0, Or.inr ⟨fun z => inB_n (of_decide_eq_true q3830) z.2.1.2.1, _, by decide, gn3859⟩⟩
                                | exact ⟨_, _, rfl, t0, Or.inr ⟨fun z => inB_n (of_decide_eq_true q3839) z.2.1.2.2.1, _, by decide, gn3859⟩⟩
                                | exact ⟨_, _, rfl, t0, Or.inr ⟨fun z => (of_decide_eq_true q3847) (rI0.mp z.2.1.2.2.2.1), _, by decide, gn3859⟩⟩
                                | exact ⟨_, _, rfl, t0, Or.inr ⟨fun z => inB_n (of_decide_eq_true q3856) z.2.1.2.2.2.2.1, _, by decide, gn3859⟩⟩
                                | exact ⟨_, _, rfl, t0, Or.inr ⟨fun z => inB_n (by simpa using q3697) z.2.1.2.2.2.2.2, _, by decide, gn3859⟩⟩
                            · obtain ⟨-, z⟩ := q3859
                              cases z
                          · cases e3856
                            refine zSiload (m := 2) (k := 7) vr_153_80 rfl rfl rfl (fun x3861 e3861 => ?_)
                            cases e3861
                            refine zSp0 (pc' := 83) (st' := .int (1) :: _) vr_153_82 rfl rfl ?_
                            refine zSp0 (pc' := 84) (st' := .int (5) :: _) vr_153_83 rfl rfl ?_
                            refine zScall vr_153_84 rfl rfl rfl (fun m3864 _ => C_in _ _ _ _ _ _) (fun v3864 h3864 u3864 q3864 => ?_) (fun E3864 h3864 u3864 q3864 => ?_)
                            · obtain ⟨eh3864, z3864⟩ := q3864
                              replace eh3864 := eh3864.symm
                              subst eh3864
                              cases z3864
                              show zL zrx zi _ 153 87 [(0, _), (1, _), (2, _), (3, _), (4, _), (5, _), (6, _), (7, _)] [_] _ _ _
                              refine zSb1 (f := fun x => decide (¬ x = 0)) (off := 9) (t := 96) vr_153_87 rfl rfl rfl (fun x3865 e3865 q3865 => ?_) (fun x3865 e3865 q3865 => ?_)
                              · cases e3865
                                refine zSaload (m := 1) (k := 0) vr_153_96 rfl rfl rfl ?_
                                refine zLget vr_153_97 rfl (fun p3867 w3867 e3867 t3867 g3867 => ?_)
                                cases e3867
                                first | (rw [(st_213_7 hS0)] at g3867; cases g3867) | skip
                                refine zScall vr_153_100 rfl rfl rfl (fun m3868 _ => C_lsize _ _ _ _ hs0) (fun v3868 h3868 u3868 q3868 => ?_) (fun E3868 h3868 u3868 q3868 => ?_)
                                · obtain ⟨eh3868, z3868⟩ := q3868
                                  replace eh3868 := eh3868.symm
                                  subst eh3868
                                  cases z3868
                                  show zL zrx zi _ 153 105 [(0, _), (1, _), (2, _), (3, _), (4, _), (5, _), (6, _), (7, _)] [_] _ _ _
                                  refine zSp0 (pc' := 107) (st' := .int (40) :: _) vr_153_105 rfl rfl ?_
                                  refine zSb2 (f := fun x y => decide (¬ x = y)) (off := 9) (t := 116) vr_153_107 rfl rfl rfl (fun x3870 y3870 e3870 f3870 q3870 => ?_) (fun x3870 y3870 e3870 f3870 q3870 => ?_)
                                  · cases e3870
                                    cases f3870
                                    refine zSaload (m := 1) (k := 0) vr_153_116 rfl rfl rfl ?_
                                    refine zLget vr_153_117 rfl (fun p3872 w3872 e3872 t3872 g3872 => ?_)
                                    cases e3872
                                    first | (rw [(st_213_7 hS0)] at g3872; cases g3872) | skip
                                    refine zLnew2 vr_153_120 rfl (fun k3873 u3873 g3873 => ?_)
                                    have hd1 : gF k3873 213 1 = some (.int d) := by
                                      rw [g3873.ext.fld (by have := hS0.1; omega), f0 213 1 (by omega)]
                                      exact hd
                                    refine zSdup vr_153_123 rfl ?_
                                    refine zSiload (m := 1) (k := 1) vr_153_124 rfl rfl rfl (fun x3875 e3875 => ?_)
                                    cases e3875
                                    refine zSiload (m := 1) (k := 2) vr_153_125 rfl rfl rfl (fun x3876 e3876 => ?_)
                                    cases e3876
                                    refine zSiload (m := 1) (k := 3) vr_153_126 rfl rfl rfl (fun x3877 e3877 => ?_)
                                    cases e3877
                                    refine zSiload (m := 2) (k := 4) vr_153_127 rfl rfl rfl (fun x3878 e3878 => ?_)
                                    cases e3878
                                    refine zSiload (m := 2) (k := 5) vr_153_129 rfl rfl rfl (fun x3879 e3879 => ?_)
                                    cases e3879
                                    refine zSiload (m := 2) (k := 6) vr_153_131 rfl rfl rfl (fun x3880 e3880 => ?_)
                                    cases e3880
                                    refine zSiload (m := 2) (k := 7) vr_153_133 rfl rfl rfl (fun x3881 e3881 => ?_)
                                    cases e3881
                                    refine zSaload (m := 1) (k := 0) vr_153_135 rfl rfl rfl ?_
                                    refine zLget vr_153_136 rfl (fun p3883 w3883 e3883 t3883 g3883 => ?_)
                                    cases e3883
                                    first | (rw [hd1] at g3883; cases g3883) | skip
                                    refine zScall vr_153_139 rfl rfl rfl (fun m3884 _ => C_irule _ _ _ _ _ _ _ _ _ _ _ _) (fun v3884 h3884 u3884 q3884 => ?_) (fun E3884 h3884 u3884 q3884 => ?_)
                                    · have z3884 := q3884.1
                                      cases z3884
                                      show zL zrx zi _ 153 142 [(0, _), (1, _), (2, _), (3, _), (4, _), (5, _), (6, _), (7, _)] [_, _] _ _ _
                                      have im := q3884.2
                                      have hel := gN_lt hn
                                      have lk : k3802.length = h.length := t0.1
                                      have hh := hS.1
                                      have n1 : ∀ q, q < h.length → gT h3884 q = gT h q ∧ gN h3884 q = gN h q := fun q hq => by
                                        rw [(im.2.2.2.2.2 q).1, (im.2.2.2.2.2 q).2, (g3873.ext.T (by omega)).1, (g3873.ext.T (by omega)).2, t0.2.2.1, t0.2.2.2]
                                        exact ⟨rfl, rfl⟩
                                      have f1 : ∀ q k, q < h.length → ¬ (q = 213 ∧ k = 0) → gF h3884 q k = gF h q k := fun q k hq z => by
                                        rw [im.1 q k (by omega), g3873.ext.fld (by omega), f0 q k z]
                                      refine zScall vr_153_142 rfl rfl rfl (fun m3885 _ => C_add _ _ _ _ _ ((f1 223 1 (by omega) (by omega)).trans hL) ((f1 223 2 (by omega) (by omega)).trans hs) ((n1 el hel).2.trans hn) hl2 (by rw [(n1 el hel).1]; exact tE)) (fun v3885 h3885 u3885 q3885 => ?_) (fun E3885 h3885 u3885 q3885 => ?_)
                                      · obtain ⟨z3885, kA⟩ := q3885
                                        cases z3885
                                        show zL zrx zi _ 153 147 [(0, _), (1, _), (2, _), (3, _), (4, _), (5, _), (6, _), (7, _)] [_] _ _ _
                                        refine zSpop vr_153_147 rfl ?_
                                        have a7 := kA.2.2
                                        obtain ⟨ane, el2, b1, b2, b3, b4, b5, b6, b7⟩ := a7
                                        have f2 := (b6 213 (by rw [im.2.2.2.2.1, g3873.len]; omega) (by omega) (fun z => h213 z.symm) 7).trans ((f1 213 7 (by omega) (by omega)).trans (st_213_7 hS))
                                        refine zSaload (m := 1) (k := 0) vr_153_148 rfl rfl rfl ?_
                                        refine zLget vr_153_149 rfl (fun p3888 w3888 e3888 t3888 g3888 => ?_)
                                        cases e3888
                                        first | (rw [f2] at g3888; cases g3888) | skip
                                        refine zScall vr_153_152 rfl rfl rfl (fun m3889 _ => C_lsize _ _ _ _ b2) (fun v3889 h3889 u3889 q3889 => ?_) (fun E3889 h3889 u3889 q3889 => ?_)
                                        · obtain ⟨eh3889, z3889⟩ := q3889
                                          replace eh3889 := eh3889.symm
                                          subst eh3889
                                          cases z3889
                                          show zL zrx zi _ 153 157 [(0, _), (1, _), (2, _), (3, _), (4, _), (5, _), (6, _), (7, _)] [_] _ _ _
                                          refine zSp0 (pc' := 158) (st' := .int (1) :: _) vr_153_157 rfl rfl ?_
                                          refine zS2 (f := fun x y => .int (x - y)) vr_153_158 rfl rfl (fun x3891 y3891 e3891 f3891 => ?_)
                                          cases e3891
                                          cases f3891
                                          refine zLiret vr_153_159 rfl (fun x3892 e3892 => ?_)
                                          cases e3892
                                          have c40 : cnt.toInt < 40 := by
                                            have y := of_decide_eq_true q3870
                                            have z40 : (40 : Int32).toInt = 40 := rfl
                                            have : ¬ cnt.toInt = 40 := fun z => y (Int32.toInt_inj.mp (by omega))
                                            omega
                                          exact ⟨_, _, rfl, t0, Or.inl ⟨⟨⟨in_y (x := p) (hi := 5) (m := 6) (by decide) (by simpa using q3807), in_y (x := m) (hi := 3) (m := 4) (by decide) (of_decide_eq_true q3816)⟩, ⟨(inB_y (by simpa using q3821)), (inB_y (by simpa using q3830)), (inB_y (by simpa using q3839)), rI0.mpr (by simpa using q3847), (inB_y (by simpa using q3856)), (inB_y (of_decide_eq_true q3865))⟩, c40⟩, mm_end hh hel h213 t0 g3873 im kA⟩⟩
                                        · obtain ⟨-, z⟩ := q3889
                                          cases z
                                      · obtain ⟨z, -⟩ := q3885
                                        cases z
                                    · cases q3884.1
                                  · cases e3870
                                    cases f3870
                                    refine zSaload (m := 1) (k := 0) vr_153_110 rfl rfl rfl ?_
                                    refine zSp0 (pc' := 112) (st' := .int (3) :: _) vr_153_111 rfl rfl ?_
                                    refine zScall vr_153_112 rfl rfl rfl (fun m3895 _ => C_no _ _ _ _ _) (fun v3895 h3895 u3895 q3895 => ?_) (fun E3895 h3895 u3895 q3895 => ?_)
                                    · obtain ⟨gn3895, z3895⟩ := q3895
                                      cases z3895
                                      show zL zrx zi _ 153 115 [(0, _), (1, _), (2, _), (3, _), (4, _), (5, _), (6, _), (7, _)] [_] _ _ _
                                      refine zLiret vr_153_115 rfl (fun x3896 e3896 => ?_)
                                      cases e3896
                                      exact ⟨_, _, rfl, t0, Or.inr ⟨fun z => absurd z.2.2 (by rw [show cnt = 40 by simpa using q3870]; decide), _, by decide, gn3895⟩⟩
                                    · obtain ⟨-, z⟩ := q3895
                                      cases z
                                · obtain ⟨-, z⟩ := q3868
                                  cases z
                              · cases e3865
                                refine zSaload (m := 1) (k := 0) vr_153_90 rfl rfl rfl ?_
                                refine zSp0 (pc' := 92) (st' := .int (2) :: _) vr_153_91 rfl rfl ?_
                                refine zScall vr_153_92 rfl rfl rfl (fun m3899 _ => C_no _ _ _ _ _) (fun v3899 h3899 u3899 q3899 => ?_) (fun E3899 h3899 u3899 q3899 => ?_)
                                · obtain ⟨gn3899, z3899⟩ := q3899
                                  cases z3899
                                  show zL zrx zi _ 153 95 [(0, _), (1, _), (2, _), (3, _), (4, _), (5, _), (6, _), (7, _)] [_] _ _ _
                                  refine zLiret vr_153_95 rfl (fun x3900 e3900 => ?_)
                                  cases e3900
                                  first
                                    | exact ⟨_, _, rfl, t0, Or.inr ⟨fun z => inB_n (of_decide_eq_true q3821) z.2.1.1, _, by decide, gn3899⟩⟩
                                    | exact ⟨_, _, rfl, t0, Or.inr ⟨fun z => inB_n (of_decide_eq_true q3830) z.2.1.2.1, _, by decide, gn3899⟩⟩
                                    | exact ⟨_, _, rfl, t0, Or.inr ⟨fun z => inB_n (of_decide_eq_true q3839) z.2.1.2.2.1, _, by decide, gn3899⟩⟩
                                    | exact ⟨_, _, rfl, t0, Or.inr ⟨fun z => (of_decide_eq_true q3847) (rI0.mp z.2.1.2.2.2.1), _, by decide, gn3899⟩⟩
                                    | exact ⟨_, _, rfl, t0, Or.inr ⟨fun z => inB_n (of_decide_eq_true q3856) z.2.1.2.2.2.2.1, _, by decide, gn3899⟩⟩
                                    | exact ⟨_, _, rfl, t0, Or.inr ⟨fun z => inB_n (by simpa using q3865) z.2.1.2.2.2.2.2, _, by decide, gn3899⟩⟩
                                · obtain ⟨-, z⟩ := q3899
                                  cases z
                            · obtain ⟨-, z⟩ := q3864
                              cases z
                        · obtain ⟨-, z⟩ := q3855
                          cases z
                  · obtain ⟨-, z⟩ := q3838
                    cases z
              · obtain ⟨-, z⟩ := q3829
                cases z
          · obtain ⟨-, z⟩ := q3820
            cases z
        · cases e3816
          refine zSaload (m := 1) (k := 0) vr_153_23 rfl rfl rfl ?_
          refine zSp0 (pc' := 25) (st' := .int (1) :: _) vr_153_24 rfl rfl ?_
          refine zScall vr_153_25 rfl rfl rfl (fun m3903 _ => C_no _ _ _ _ _) (fun v3903 h3903 u3903 q3903 => ?_) (fun E3903 h3903 u3903 q3903 => ?_)
          · obtain ⟨gn3903, z3903⟩ := q3903
            cases z3903
            show zL zrx zi _ 153 28 [(0, _), (1, _), (2, _), (3, _), (4, _), (5, _), (6, _), (7, _)] [_] _ _ _
            refine zLiret vr_153_28 rfl (fun x3904 e3904 => ?_)
            cases e3904
            first
              | exact ⟨_, _, rfl, t0, Or.inr ⟨fun z => in_n (x := p) (hi := 5) (m := 6) (by decide) (of_decide_eq_true q3807) z.1.1, _, by decide, gn3903⟩⟩
              | exact ⟨_, _, rfl, t0, Or.inr ⟨fun z => in_n (x := m) (hi := 3) (m := 4) (by decide) (by simpa using q3816) z.1.2, _, by decide, gn3903⟩⟩
          · obtain ⟨-, z⟩ := q3903
            cases z
      · obtain ⟨-, z⟩ := q3815
        cases z
  · obtain ⟨-, z⟩ := q3806
    cases z
theorem C_limit (n : Nat) (x a b : Int32) (h : List zC) (u : Nat) {cnt : Int32} (hS : Stc h) (hc : gF h 28 2 = some (.int cnt)) (h40 : cnt.toInt ≤ 40) : zL zrx zi n 61 0 [(0, .ref 16), (1, .int x), (2, .int a), (3, .int b)] [] h u (fun o h2 _ => match o with
  | .inl v => (iN cnt.toInt x ∧ rI 0 999 a ∧ rI a 999 b) ∧ ∃ (s : Int32) (h1 : List zC), v = some (.int s) ∧ gF h (31 + x.toNatClampNeg) 10 = some (.int s) ∧ hPut h h1 (31 + x.toNatClampNeg) 7 (.int a) ∧ hPut h1 h2 (31 + x.toNatClampNeg) 8 (.int b)
  | .inr E => hExt h h2 ∧ ((E = 0 ∧ ¬ iN cnt.toInt x) ∨ (E = 1 ∧ iN cnt.toInt x ∧ ¬ (rI 0 999 a ∧ rI a 999 b)))) := by
  refine zSiload (m := 1) (k := 1) vr_61_0 rfl rfl rfl (fun x3905 e3905 => ?_)
  cases e3905
  refine zSaload (m := 1) (k := 0) vr_61_1 rfl rfl rfl ?_
  refine zLget vr_61_2 rfl (fun p3907 w3907 e3907 t3907 g3907 => ?_)
  cases e3907
  first | (rw [(st_16_9 hS)] at g3907; cases g3907) | (rw [hc] at g3907; cases g3907) | (rw [(st_28_0 hS)] at g3907; cases g3907) | (rw [(st_rule hS hk)] at g3907; cases g3907) | skip
  refine zLget vr_61_5 rfl (fun p3908 w3908 e3908 t3908 g3908 => ?_)
  cases e3908
  first | (rw [(st_16_9 hS)] at g3908; cases g3908) | (rw [hc] at g3908; cases g3908) | (rw [(st_28_0 hS)] at g3908; cases g3908) | (rw [(st_rule hS hk)] at g3908; cases g3908) | skip
  refine zScall vr_61_8 rfl rfl rfl (fun m3909 _ => C_num6 _ _ _ _ (m := cnt.toInt) rfl) (fun v3909 h3909 u3909 q3909 => ?_) (fun E3909 h3909 u3909 q3909 => ?_)
  · obtain ⟨eh3909, rfl, r1⟩ := q3909
    replace eh3909 := eh3909.symm
    subst eh3909
    show zL zrx zi _ 61 11 [(0, _), (1, _), (2, _), (3, _)] [] _ _ _
    refine zSiload (m := 1) (k := 2) vr_61_11 rfl rfl rfl (fun x3910 e3910 => ?_)
    cases e3910
    refine zSp0 (pc' := 13) (st' := .int (0) :: _) vr_61_12 rfl rfl ?_
    refine zSp0 (pc' := 16) (st' := .int (999) :: _) vr_61_13 rfl rfl ?_
    refine zScall vr_61_16 rfl rfl rfl (fun m3913 _ => C_val _ _ _ _ _ _) (fun v3913 h3913 u3913 q3913 => ?_) (fun E3913 h3913 u3913 q3913 => ?_)
    · obtain ⟨eh3913, rfl, r2⟩ := q3913
      replace eh3913 := eh3913.symm
      subst eh3913
      show zL zrx zi _ 61 19 [(0, _), (1, _), (2, _), (3, _)] [] _ _ _
      refine zSiload (m := 1) (k := 3) vr_61_19 rfl rfl rfl (fun x3914 e3914 => ?_)
      cases e3914
      refine zSiload (m := 1) (k := 2) vr_61_20 rfl rfl rfl (fun x3915 e3915 => ?_)
      cases e3915
      refine zSp0 (pc' := 24) (st' := .int (999) :: _) vr_61_21 rfl rfl ?_
      refine zScall vr_61_24 rfl rfl rfl (fun m3917 _ => C_val _ _ _ _ _ _) (fun v3917 h3917 u3917 q3917 => ?_) (fun E3917 h3917 u3917 q3917 => ?_)
      · obtain ⟨eh3917, rfl, r3⟩ := q3917
        replace eh3917 := eh3917.symm
        subst eh3917
        show zL zrx zi _ 61 27 [(0, _), (1, _), (2, _), (3, _)] [] _ _ _
        have hk : x.toNatClampNeg < 40 := n40 (by have := r1.2; omega)
        refine zSaload (m := 1) (k := 0) vr_61_27 rfl rfl rfl ?_
        refine zLget vr_61_28 rfl (fun p3919 w3919 e3919 t3919 g3919 => ?_)
        cases e3919
        first | (rw [(st_16_9 hS)] at g3919; cases g3919) | (rw [hc] at g3919; cases g3919) | (rw [(st_28_0 hS)] at g3919; cases g3919) | (rw [(st_rule hS hk)] at g3919; cases g3919) | skip
        refine zLget vr_61_31 rfl (fun p3920 w3920 e3920 t3920 g3920 => ?_)
        cases e3920
        first | (rw [(st_16_9 hS)] at g3920; cases g3920) | (rw [hc] at g3920; cases g3920) | (rw [(st_28_0 hS)] at g3920; cases g3920) | (rw [(st_rule hS hk)] at g3920; cases g3920) | skip
        refine zSiload (m := 1) (k := 1) vr_61_34 rfl rfl rfl (fun x3921 e3921 => ?_)
        cases e3921
        refine zLaald vr_61_35 rfl (fun p3922 x3922 w3922 e3922 f3922 c3922 t3922 g3922 => ?_)
        cases e3922
        cases f3922
        first | (rw [(st_16_9 hS)] at g3922; cases g3922) | (rw [hc] at g3922; cases g3922) | (rw [(st_28_0 hS)] at g3922; cases g3922) | (rw [(st_rule hS hk)] at g3922; cases g3922) | skip
        refine zSiload (m := 1) (k := 2) vr_61_36 rfl rfl rfl (fun x3923 e3923 => ?_)
        cases e3923
        refine zLput vr_61_37 rfl (fun p3924 k3924 e3924 t3924 g3924 => ?_)
        cases e3924
        have f1 : ∀ q k, ¬ q = (31 + x.toNatClampNeg) → gF k3924 q k = gF h q k := fun q k z => by rw [g3924.2.1, if_neg (fun y => z y.1)]
        refine zSaload (m := 1) (k := 0) vr_61_40 rfl rfl rfl ?_
        refine zLget vr_61_41 rfl (fun p3926 w3926 e3926 t3926 g3926 => ?_)
        cases e3926
        first | (rw [((f1 16 9 (by omega)).trans (st_16_9 hS))] at g3926; cases g3926) | (rw [((f1 28 0 (by omega)).trans (st_28_0 hS))] at g3926; cases g3926) | (rw [((f1 29 _ (by omega)).trans (st_rule hS hk))] at g3926; cases g3926) | skip
        refine zLget vr_61_44 rfl (fun p3927 w3927 e3927 t3927 g3927 => ?_)
        cases e3927
        first | (rw [((f1 16 9 (by omega)).trans (st_16_9 hS))] at g3927; cases g3927) | (rw [((f1 28 0 (by omega)).trans (st_28_0 hS))] at g3927; cases g3927) | (rw [((f1 29 _ (by omega)).trans (st_rule hS hk))] at g3927; cases g3927) | skip
        refine zSiload (m := 1) (k := 1) vr_61_47 rfl rfl rfl (fun x3928 e3928 => ?_)
        cases e3928
        refine zLaald vr_61_48 rfl (fun p3929 x3929 w3929 e3929 f3929 c3929 t3929 g3929 => ?_)
        cases e3929
        cases f3929
        first | (rw [((f1 16 9 (by omega)).trans (st_16_9 hS))] at g3929; cases g3929) | (rw [((f1 28 0 (by omega)).trans (st_28_0 hS))] at g3929; cases g3929) | (rw [((f1 29 _ (by omega)).trans (st_rule hS hk))] at g3929; cases g3929) | skip
        refine zSiload (m := 1) (k := 3) vr_61_49 rfl rfl rfl (fun x3930 e3930 => ?_)
        cases e3930
        refine zLput vr_61_50 rfl (fun p3931 k3931 e3931 t3931 g3931 => ?_)
        cases e3931
        have f2 : ∀ q k, ¬ q = (31 + x.toNatClampNeg) → gF k3931 q k = gF h q k := fun q k z => by rw [g3931.2.1, if_neg (fun y => z y.1), f1 q k z]
        refine zSaload (m := 1) (k := 0) vr_61_53 rfl rfl rfl ?_
        refine zLget vr_61_54 rfl (fun p3933 w3933 e3933 t3933 g3933 => ?_)
        cases e3933
        first | (rw [((f2 16 9 (by omega)).trans (st_16_9 hS))] at g3933; cases g3933) | (rw [((f2 28 0 (by omega)).trans (st_28_0 hS))] at g3933; cases g3933) | (rw [((f2 29 _ (by omega)).trans (st_rule hS hk))] at g3933; cases g3933) | skip
        refine zLget vr_61_57 rfl (fun p3934 w3934 e3934 t3934 g3934 => ?_)
        cases e3934
        first | (rw [((f2 16 9 (by omega)).trans (st_16_9 hS))] at g3934; cases g3934) | (rw [((f2 28 0 (by omega)).trans (st_28_0 hS))] at g3934; cases g3934) | (rw [((f2 29 _ (by omega)).trans (st_rule hS hk))] at g3934; cases g3934) | skip
        refine zSiload (m := 1) (k := 1) vr_61_60 rfl rfl rfl (fun x3935 e3935 => ?_)
        cases e3935
        refine zLaald vr_61_61 rfl (fun p3936 x3936 w3936 e3936 f3936 c3936 t3936 g3936 => ?_)
        cases e3936
        cases f3936
        first | (rw [((f2 16 9 (by omega)).trans (st_16_9 hS))] at g3936; cases g3936) | (rw [((f2 28 0 (by omega)).trans (st_28_0 hS))] at g3936; cases g3936) | (rw [((f2 29 _ (by omega)).trans (st_rule hS hk))] at g3936; cases g3936) | skip
        refine zLget vr_61_62 rfl (fun p3937 w3937 e3937 t3937 g3937 => ?_)
        cases e3937
        first | (rw [((f2 16 9 (by omega)).trans (st_16_9 hS))] at g3937; cases g3937) | (rw [((f2 28 0 (by omega)).trans (st_28_0 hS))] at g3937; cases g3937) | (rw [((f2 29 _ (by omega)).trans (st_rule hS hk))] at g3937; cases g3937) | skip
        have g6 := g3937
        rw [g3931.2.1, if_neg (by omega), g3924.2.1, if_neg (by omega)] at g6
        refine zLiret vr_61_65 rfl (fun x3938 e3938 => ?_)
        cases e3938
        exact ⟨⟨r1, r2, r3⟩, _, _, rfl, g6, g3924, g3931⟩
      · obtain ⟨rfl, q1, q2⟩ := q3917
        rw [zCat_no vh_61_24_1]
        exact ⟨q2, Or.inr ⟨rfl, r1, fun z => q1 z.2⟩⟩
    · obtain ⟨rfl, q1, q2⟩ := q3913
      rw [zCat_no vh_61_16_1]
      exact ⟨q2, Or.inr ⟨rfl, r1, fun z => q1 z.1⟩⟩
  · obtain ⟨rfl, q1, q2⟩ := q3909
    rw [zCat_no vh_61_8_0]
    exact ⟨q2, Or.inl ⟨rfl, q1⟩⟩
abbrev Q_Llimit (cnt : Int32) (x a b : Int32) (h : List zC) : zK := fun o h2 _ => ∃ k : Int32, o = .inl (some (.int k)) ∧
  ((k = 0 ∧ (iN cnt.toInt x ∧ rI 0 999 a ∧ rI a 999 b) ∧ ∃ (s : Int32) (h0 h1 : List zC), gF h (31 + x.toNatClampNeg) 10 = some (.int s) ∧ hPut h h0 (31 + x.toNatClampNeg) 7 (.int a) ∧ hPut h0 h1 (31 + x.toNatClampNeg) 8 (.int b) ∧ hPut h1 h2 238 0 (.long s.toInt64)) ∨ (k = 1 ∧ ¬ iN cnt.toInt x ∧ hExt h h2) ∨ (k = 2 ∧ iN cnt.toInt x ∧ ¬ (rI 0 999 a ∧ rI a 999 b) ∧ hExt h h2))
theorem C_Llimit (n : Nat) (x a b : Int32) (h : List zC) (u : Nat) {cnt : Int32} (hS : Stc h) (hc : gF h 28 2 = some (.int cnt)) (h40 : cnt.toInt ≤ 40) : zL zrx zi n 212 0 [(0, .ref 16), (1, .int x), (2, .int a), (3, .int b), (4, .ref 238)] [] h u (Q_Llimit cnt x a b h) := by
  refine zSaload (m := 2) (k := 4) vr_212_0 rfl rfl rfl ?_
  refine zSaload (m := 1) (k := 0) vr_212_2 rfl rfl rfl ?_
  refine zSiload (m := 1) (k := 1) vr_212_3 rfl rfl rfl (fun x3941 e3941 => ?_)
  cases e3941
  refine zSiload (m := 1) (k := 2) vr_212_4 rfl rfl rfl (fun x3942 e3942 => ?_)
  cases e3942
  refine zSiload (m := 1) (k := 3) vr_212_5 rfl rfl rfl (fun x3943 e3943 => ?_)
  cases e3943
  refine zScall vr_212_6 rfl rfl rfl (fun m3944 _ => C_limit _ _ _ _ _ _ hS hc h40) (fun v3944 h3944 u3944 q3944 => ?_) (fun E3944 h3944 u3944 q3944 => ?_)
  · obtain ⟨k1, s3944, i3944, rfl, k2, k3, k4⟩ := q3944
    show zL zrx zi _ 212 9 [(0, _), (1, _), (2, _), (3, _), (4, _)] [_, _] _ _ _
    refine zS1 (f := fun x => .long x.toInt64) vr_212_9 rfl rfl (fun x3945 e3945 => ?_)
    cases e3945
    refine zLput vr_212_10 rfl (fun p3946 k3946 e3946 t3946 g3946 => ?_)
    cases e3946
    have gP := g3946
    refine zSgo (t := 24) vr_212_13 rfl rfl ?_
    refine zSp0 (pc' := 25) (st' := .int (0) :: _) vr_212_24 rfl rfl ?_
    refine zLiret vr_212_25 rfl (fun x3949 e3949 => ?_)
    cases e3949
    exact ⟨_, rfl, Or.inl ⟨rfl, k1, _, _, _, k2, k3, k4, gP⟩⟩
  · obtain ⟨q1, ⟨rfl, z⟩ | ⟨rfl, z⟩⟩ := q3944
    · rw [zCat_hit (k := 5) (m := 2) vh_212_6_0 vr_212_16 rfl (by decide)]
      show zL zrx zi _ 212 18 [(0, _), (1, _), (2, _), (3, _), (4, _)] [] _ _ _
      refine zSp0 (pc' := 19) (st' := .int (1) :: _) vr_212_18 rfl rfl ?_
      refine zLiret vr_212_19 rfl (fun x3951 e3951 => ?_)
      cases e3951
      exact ⟨_, rfl, Or.inr (Or.inl ⟨rfl, z, q1⟩)⟩
    · rw [zCat_hit (k := 5) (m := 2) vh_212_6_1 vr_212_20 rfl (by decide)]
      show zL zrx zi _ 212 22 [(0, _), (1, _), (2, _), (3, _), (4, _)] [] _ _ _
      refine zSp0 (pc' := 23) (st' := .int (2) :: _) vr_212_22 rfl rfl ?_
      refine zLiret vr_212_23 rfl (fun x3953 e3953 => ?_)
      cases e3953
      exact ⟨_, rfl, Or.inr (Or.inr ⟨rfl, z.1, z.2, q1⟩)⟩
theorem C_size_loop : ∀ (n : Nat) (x m l : Int32) (h : List zC) (u : Nat), zL zrx zi n 134 4 [(2, .int l), (1, .int m), (0, .int x)] [] h u (fun o h2 _ => h2 = h ∧ ∃ s, Psz l s ∧ o = .inl (some (.int (m + s))))
  | 0, _, _, _, _, _ => trivial
  | n + 1, x, m, l, h, u => by
    refine zLp vr_134_4 rfl rfl ?_
    refine zSb1 (f := fun x => decide (x ≤ 0)) (off := 16) (t := 21) vr_134_5 rfl rfl rfl (fun x3954 e3954 q3954 => ?_) (fun x3954 e3954 q3954 => ?_)
    · cases e3954
      refine zSiload (m := 1) (k := 1) vr_134_21 rfl rfl rfl (fun x3955 e3955 => ?_)
      cases e3955
      refine zLiret vr_134_22 rfl (fun x3956 e3956 => ?_)
      cases e3956
      refine ⟨rfl, 0, Psz0 ?_, ?_⟩
      · simpa using q3954
      · rw [Int32.add_zero]
    · cases e3954
      refine zSiload (m := 1) (k := 1) vr_134_8 rfl rfl rfl (fun x3957 e3957 => ?_)
      cases e3957
      refine zSiload (m := 1) (k := 2) vr_134_9 rfl rfl rfl (fun x3958 e3958 => ?_)
      cases e3958
      refine zSp0 (pc' := 11) (st' := .int (2) :: _) vr_134_10 rfl rfl ?_
      refine zSrem vr_134_11 rfl (fun x3960 y3960 e3960 f3960 g3960 => ?_)
      cases e3960
      cases f3960
      refine zS2 (f := fun x y => .int (x + y)) vr_134_12 rfl rfl (fun x3961 y3961 e3961 f3961 => ?_)
      cases e3961
      cases f3961
      refine zSistore (m := 1) (k := 1) vr_134_13 rfl rfl (fun x3962 e3962 => ?_)
      cases e3962
      show zL zrx zi _ 134 14 [(1, _), (2, _), (0, _)] [] _ _ _
      refine zSiload (m := 1) (k := 2) vr_134_14 rfl rfl rfl (fun x3963 e3963 => ?_)
      cases e3963
      refine zSp0 (pc' := 16) (st' := .int (2) :: _) vr_134_15 rfl rfl ?_
      refine zSdiv vr_134_16 rfl (fun x3965 y3965 e3965 f3965 g3965 => ?_)
      cases e3965
      cases f3965
      refine zSistore (m := 1) (k := 2) vr_134_17 rfl rfl (fun x3966 e3966 => ?_)
      cases e3966
      show zL zrx zi _ 134 18 [(2, _), (1, _), (0, _)] [] _ _ _
      refine zSgo (t := 4) vr_134_18 rfl rfl ?_
      refine zL_K _ _ _ _ _ _ _ _ _ (C_size_loop n _ _ _ _ _) (fun o h2 u2 q => ?_)
      obtain ⟨z1, s, z2, z3⟩ := q
      refine ⟨z1, _, PszS ?_ z2, ?_⟩
      · simpa using q3954
      · rw [z3, Int32.add_assoc]
theorem C_size (n : Nat) (x : Int32) (h : List zC) (u : Nat) : zL zrx zi n 134 0 [(0, .int x)] [] h u (fun o h2 _ => h2 = h ∧ ∃ s, Psz x s ∧ o = .inl (some (.int s))) := by
  refine zSp0 (pc' := 1) (st' := .int (0) :: _) vr_134_0 rfl rfl ?_
  refine zSistore (m := 1) (k := 1) vr_134_1 rfl rfl (fun x3969 e3969 => ?_)
  cases e3969
  show zL zrx zi _ 134 2 [(1, _), (0, _)] [] _ _ _
  refine zSiload (m := 1) (k := 0) vr_134_2 rfl rfl rfl (fun x3970 e3970 => ?_)
  cases e3970
  refine zSistore (m := 1) (k := 2) vr_134_3 rfl rfl (fun x3971 e3971 => ?_)
  cases e3971
  show zL zrx zi _ 134 4 [(2, _), (1, _), (0, _)] [] _ _ _
  refine zL_K _ _ _ _ _ _ _ _ _ (C_size_loop _ _ _ _ _ _) (fun o h2 u2 q => ?_)
  obtain ⟨q1, s, q2, q3⟩ := q
  exact ⟨q1, s, q2, by rw [q3, Int32.zero_add]⟩
theorem C_strength (n : Nat) (p : Nat) (h : List zC) (u : Nat) {a b c : Int32} (h3 : gF h p 3 = some (.int a)) (h4 : gF h p 4 = some (.int b)) (h6 : gF h p 6 = some (.int c)) : zL zrx zi n 127 0 [(0, .ref p)] [] h u (fun o h2 _ => h2 = h ∧ ∃ s t : Int32, Psz a s ∧ Psz b t ∧ o = .inl (some (.int (10 * (s + t) + c)))) := by
  refine zSp0 (pc' := 2) (st' := .int (10) :: _) vr_127_0 rfl rfl ?_
  refine zSaload (m := 1) (k := 0) vr_127_2 rfl rfl rfl ?_
  refine zLget vr_127_3 rfl (fun p3974 w3974 e3974 t3974 g3974 => ?_)
  cases e3974
  first | (rw [h3] at g3974; cases g3974) | (rw [h4] at g3974; cases g3974) | (rw [h6] at g3974; cases g3974) | skip
  refine zScall vr_127_6 rfl rfl rfl (fun m3975 _ => C_size _ _ _ _) (fun v3975 h3975 u3975 q3975 => ?_) (fun E3975 h3975 u3975 q3975 => ?_)
  · obtain ⟨eh3975, s3975, a3975, z3975⟩ := q3975
    replace eh3975 := eh3975.symm
    subst eh3975
    cases z3975
    show zL zrx zi _ 127 9 [(0, _)] [_, _] _ _ _
    refine zSaload (m := 1) (k := 0) vr_127_9 rfl rfl rfl ?_
    refine zLget vr_127_10 rfl (fun p3977 w3977 e3977 t3977 g3977 => ?_)
    cases e3977
    first | (rw [h3] at g3977; cases g3977) | (rw [h4] at g3977; cases g3977) | (rw [h6] at g3977; cases g3977) | skip
    refine zScall vr_127_13 rfl rfl rfl (fun m3978 _ => C_size _ _ _ _) (fun v3978 h3978 u3978 q3978 => ?_) (fun E3978 h3978 u3978 q3978 => ?_)
    · obtain ⟨eh3978, s3978, a3978, z3978⟩ := q3978
      replace eh3978 := eh3978.symm
      subst eh3978
      cases z3978
      show zL zrx zi _ 127 16 [(0, _)] [_, _, _] _ _ _
      refine zS2 (f := fun x y => .int (x + y)) vr_127_16 rfl rfl (fun x3979 y3979 e3979 f3979 => ?_)
      cases e3979
      cases f3979
      refine zS2 (f := fun x y => .int (x * y)) vr_127_17 rfl rfl (fun x3980 y3980 e3980 f3980 => ?_)
      cases e3980
      cases f3980
      refine zSaload (m := 1) (k := 0) vr_127_18 rfl rfl rfl ?_
      refine zLget vr_127_19 rfl (fun p3982 w3982 e3982 t3982 g3982 => ?_)
      cases e3982
      first | (rw [h3] at g3982; cases g3982) | (rw [h4] at g3982; cases g3982) | (rw [h6] at g3982; cases g3982) | skip
      refine zS2 (f := fun x y => .int (x + y)) vr_127_22 rfl rfl (fun x3983 y3983 e3983 f3983 => ?_)
      cases e3983
      cases f3983
      refine zLiret vr_127_23 rfl (fun x3984 e3984 => ?_)
      cases e3984
      refine ⟨rfl, _, _, ?_, ?_, rfl⟩ <;> assumption
    · obtain ⟨-, _, -, z⟩ := q3978
      cases z
  · obtain ⟨-, _, -, z⟩ := q3975
    cases z
theorem C_isRule (n : Nat) (x : Int32) (h : List zC) (u : Nat) {cnt : Int32} (hS : Stc h) (hs : gF h 223 2 = some (.int cnt)) : zL zrx zi n 154 0 [(0, .ref 213), (1, .int x)] [] h u (fun o h2 _ => h2 = h ∧ o = .inl (some (.int (inB x 0 (cnt - 1))))) := by
  refine zSiload (m := 1) (k := 1) vr_154_0 rfl rfl rfl (fun x3985 e3985 => ?_)
  cases e3985
  refine zSp0 (pc' := 2) (st' := .int (0) :: _) vr_154_1 rfl rfl ?_
  refine zSaload (m := 1) (k := 0) vr_154_2 rfl rfl rfl ?_
  refine zLget vr_154_3 rfl (fun p3988 w3988 e3988 t3988 g3988 => ?_)
  cases e3988
  first | (rw [(st_213_7 hS)] at g3988; cases g3988) | skip
  refine zScall vr_154_6 rfl rfl rfl (fun m3989 _ => C_lsize _ _ _ _ hs) (fun v3989 h3989 u3989 q3989 => ?_) (fun E3989 h3989 u3989 q3989 => ?_)
  · obtain ⟨eh3989, z3989⟩ := q3989
    replace eh3989 := eh3989.symm
    subst eh3989
    cases z3989
    show zL zrx zi _ 154 11 [(0, _), (1, _)] [_, _, _] _ _ _
    refine zSp0 (pc' := 12) (st' := .int (1) :: _) vr_154_11 rfl rfl ?_
    refine zS2 (f := fun x y => .int (x - y)) vr_154_12 rfl rfl (fun x3991 y3991 e3991 f3991 => ?_)
    cases e3991
    cases f3991
    refine zScall vr_154_13 rfl rfl rfl (fun m3992 _ => C_in _ _ _ _ _ _) (fun v3992 h3992 u3992 q3992 => ?_) (fun E3992 h3992 u3992 q3992 => ?_)
    · obtain ⟨eh3992, z3992⟩ := q3992
      replace eh3992 := eh3992.symm
      subst eh3992
      cases z3992
      show zL zrx zi _ 154 16 [(0, _), (1, _)] [_] _ _ _
      refine zLiret vr_154_16 rfl (fun x3993 e3993 => ?_)
      cases e3993
      exact ⟨rfl, rfl⟩
    · obtain ⟨-, z⟩ := q3992
      cases z
  · obtain ⟨-, z⟩ := q3989
    cases z
abbrev Q_mlimit (el : Nat) (cnt : Int32) (x a b : Int32) (h : List zC) : zK := fun o h2 _ => ∃ (r : Int32) (h0 : List zC), o = .inl (some (.int r)) ∧ hPut h h0 213 0 (.int 0) ∧
  (((iN cnt.toInt x ∧ rI 0 999 a ∧ rI a 999 b) ∧ ∃ (q : Nat) (h1 : List zC) (fa fb fc s t : Int32), gF h el x.toNatClampNeg = some (.ref q) ∧ gT h q = some 17 ∧ hPut h0 h1 q 8 (.int a) ∧ hPut h1 h2 q 9 (.int b) ∧ gF h q 3 = some (.int fa) ∧ gF h q 4 = some (.int fb) ∧ gF h q 6 = some (.int fc) ∧ Psz fa s ∧ Psz fb t ∧ r = 10 * (s + t) + fc) ∨ (¬ iN cnt.toInt x ∧ hPut h0 h2 213 0 (.int 1)) ∨ (iN cnt.toInt x ∧ ¬ (rI 0 999 a ∧ rI a 999 b) ∧ hPut h0 h2 213 0 (.int 2)))
theorem C_mlimit (n : Nat) (x a b : Int32) (h : List zC) (u : Nat) {el : Nat} {cnt : Int32} (hS : Stc h) (hs : gF h 223 2 = some (.int cnt)) (hL : gF h 223 1 = some (.ref el)) (tE : ∃ t, gT h el = some t ∧ 93 ≤ t) (h213 : ¬ el = 213) (hT : gT h 213 = some 18) (hT2 : gT h 223 = some 2) (h0c : 0 ≤ cnt.toInt) (hq : iN cnt.toInt x → ∀ q : Nat, gF h el x.toNatClampNeg = some (.ref q) → ∃ fa fb fc : Int32, gF h q 3 = some (.int fa) ∧ gF h q 4 = some (.int fb) ∧ gF h q 6 = some (.int fc)) : zL zrx zi n 155 0 [(0, .ref 213), (1, .int x), (2, .int a), (3, .int b)] [] h u (Q_mlimit el cnt x a b h) := by
  refine zSaload (m := 1) (k := 0) vr_155_0 rfl rfl rfl ?_
  refine zSp0 (pc' := 2) (st' := .int (0) :: _) vr_155_1 rfl rfl ?_
  refine zLput vr_155_2 rfl (fun p3996 k3996 e3996 t3996 g3996 => ?_)
  cases e3996
  have t0 := g3996
  have hS0 := hS.thr t0
  have f0 : ∀ q k, ¬ (q = 213 ∧ k = 0) → gF k3996 q k = gF h q k := fun q k z => by rw [t0.2.1, if_neg z]
  have hs0 := (f0 223 2 (by omega)).trans hs
  have hL0 := (f0 223 1 (by omega)).trans hL
  refine zSaload (m := 1) (k := 0) vr_155_5 rfl rfl rfl ?_
  refine zSiload (m := 1) (k := 1) vr_155_6 rfl rfl rfl (fun x3998 e3998 => ?_)
  cases e3998
  refine zScall vr_155_7 rfl rfl rfl (fun m3999 _ => C_isRule _ _ _ _ hS0 hs0) (fun v3999 h3999 u3999 q3999 => ?_) (fun E3999 h3999 u3999 q3999 => ?_)
  · obtain ⟨eh3999, z3999⟩ := q3999
    replace eh3999 := eh3999.symm
    subst eh3999
    cases z3999
    show zL zrx zi _ 155 10 [(0, _), (1, _), (2, _), (3, _)] [_] _ _ _
    refine zSb1 (f := fun x => decide (¬ x = 0)) (off := 9) (t := 19) vr_155_10 rfl rfl rfl (fun x4000 e4000 q4000 => ?_) (fun x4000 e4000 q4000 => ?_)
    · cases e4000
      refine zSiload (m := 1) (k := 2) vr_155_19 rfl rfl rfl (fun x4001 e4001 => ?_)
      cases e4001
      refine zSp0 (pc' := 21) (st' := .int (0) :: _) vr_155_20 rfl rfl ?_
      refine zSp0 (pc' := 24) (st' := .int (999) :: _) vr_155_21 rfl rfl ?_
      refine zScall vr_155_24 rfl rfl rfl (fun m4004 _ => C_in _ _ _ _ _ _) (fun v4004 h4004 u4004 q4004 => ?_) (fun E4004 h4004 u4004 q4004 => ?_)
      · obtain ⟨eh4004, z4004⟩ := q4004
        replace eh4004 := eh4004.symm
        subst eh4004
        cases z4004
        show zL zrx zi _ 155 27 [(0, _), (1, _), (2, _), (3, _)] [_] _ _ _
        refine zSb1 (f := fun x => decide (x = 0)) (off := 14) (t := 41) vr_155_27 rfl rfl rfl (fun x4005 e4005 q4005 => ?_) (fun x4005 e4005 q4005 => ?_)
        · cases e4005
          refine zSaload (m := 1) (k := 0) vr_155_41 rfl rfl rfl ?_
          refine zSp0 (pc' := 43) (st' := .int (2) :: _) vr_155_42 rfl rfl ?_
          refine zScall vr_155_43 rfl rfl rfl (fun m4008 _ => C_no _ _ _ _ _) (fun v4008 h4008 u4008 q4008 => ?_) (fun E4008 h4008 u4008 q4008 => ?_)
          · obtain ⟨gn4008, z4008⟩ := q4008
            cases z4008
            show zL zrx zi _ 155 46 [(0, _), (1, _), (2, _), (3, _)] [_] _ _ _
            refine zLiret vr_155_46 rfl (fun x4009 e4009 => ?_)
            cases e4009
            first
              | exact ⟨_, _, rfl, t0, Or.inr (Or.inr ⟨isr_y h0c (of_decide_eq_true q4000), fun z => inB_n (of_decide_eq_true q4005) z.1, gn4008⟩)⟩
              | exact ⟨_, _, rfl, t0, Or.inr (Or.inr ⟨isr_y h0c (of_decide_eq_true q4000), fun z => inB_n (by simpa using q3790) z.2, gn4008⟩)⟩
          · obtain ⟨-, z⟩ := q4008
            cases z
        · cases e4005
          refine zSiload (m := 1) (k := 3) vr_155_30 rfl rfl rfl (fun x4010 e4010 => ?_)
          cases e4010
          refine zSiload (m := 1) (k := 2) vr_155_31 rfl rfl rfl (fun x4011 e4011 => ?_)
          cases e4011
          refine zSp0 (pc' := 35) (st' := .int (999) :: _) vr_155_32 rfl rfl ?_
          refine zScall vr_155_35 rfl rfl rfl (fun m4013 _ => C_in _ _ _ _ _ _) (fun v4013 h4013 u4013 q4013 => ?_) (fun E4013 h4013 u4013 q4013 => ?_)
          · obtain ⟨eh4013, z4013⟩ := q4013
            replace eh4013 := eh4013.symm
            subst eh4013
            cases z4013
            show zL zrx zi _ 155 38 [(0, _), (1, _), (2, _), (3, _)] [_] _ _ _
            refine zSb1 (f := fun x => decide (¬ x = 0)) (off := 9) (t := 47) vr_155_38 rfl rfl rfl (fun x4014 e4014 q4014 => ?_) (fun x4014 e4014 q4014 => ?_)
            · cases e4014
              refine zSaload (m := 1) (k := 0) vr_155_47 rfl rfl rfl ?_
              refine zLget vr_155_48 rfl (fun p4016 w4016 e4016 t4016 g4016 => ?_)
              cases e4016
              first | (rw [(st_213_7 hS0)] at g4016; cases g4016) | skip
              refine zSiload (m := 1) (k := 1) vr_155_51 rfl rfl rfl (fun x4017 e4017 => ?_)
              cases e4017
              refine zScall vr_155_52 rfl rfl rfl (fun m4018 _ => C_get _ _ _ _ _ hL0 hs0) (fun v4018 h4018 u4018 q4018 => ?_) (fun E4018 h4018 u4018 q4018 => ?_)
              · obtain ⟨eh4018, y4018, w4018, z4018, k4018⟩ := q4018
                replace eh4018 := eh4018.symm
                subst eh4018
                cases z4018
                show zL zrx zi _ 155 57 [(0, _), (1, _), (2, _), (3, _)] [_] _ _ _
                refine zLcst vr_155_57 rfl (fun p4019 e4019 => ?_)
                cases e4019
                have e1 : gF k3996 el x.toNatClampNeg = some (.ref p4019) := k4018
                refine zSiload (m := 1) (k := 2) vr_155_60 rfl rfl rfl (fun x4020 e4020 => ?_)
                cases e4020
                refine zLput vr_155_61 rfl (fun p4021 k4021 e4021 t4021 g4021 => ?_)
                cases e4021
                have nel : ¬ p4019 = el := fun z => by
                  obtain ⟨t, t1, t2⟩ := tE
                  have y := t4021
                  rw [t0.2.2.1, z, t1] at y
                  cases y
                  omega
                have n213 : ¬ p4019 = 213 := fun z => by
                  have y := t4021
                  rw [t0.2.2.1, z, hT] at y
                  cases y
                have n223 : ¬ p4019 = 223 := fun z => by
                  have y := t4021
                  rw [t0.2.2.1, z, hT2] at y
                  cases y
                have f1 : ∀ q k, ¬ q = p4019 → gF k4021 q k = gF k3996 q k := fun q k z => by rw [g4021.2.1, if_neg (fun y => z y.1)]
                have hL1 := (f1 223 1 (fun z => n223 z.symm)).trans hL0
                have hs1 := (f1 223 2 (fun z => n223 z.symm)).trans hs0
                refine zSaload (m := 1) (k := 0) vr_155_64 rfl rfl rfl ?_
                refine zLget vr_155_65 rfl (fun p4023 w4023 e4023 t4023 g4023 => ?_)
                cases e4023
                first | (rw [((f1 213 7 (fun z => n213 z.symm)).trans (st_213_7 hS0))] at g4023; cases g4023) | skip
                refine zSiload (m := 1) (k := 1) vr_155_68 rfl rfl rfl (fun x4024 e4024 => ?_)
                cases e4024
                refine zScall vr_155_69 rfl rfl rfl (fun m4025 _ => C_get _ _ _ _ _ hL1 hs1) (fun v4025 h4025 u4025 q4025 => ?_) (fun E4025 h4025 u4025 q4025 => ?_)
                · obtain ⟨eh4025, y4025, w4025, z4025, k4025⟩ := q4025
                  replace eh4025 := eh4025.symm
                  subst eh4025
                  cases z4025
                  show zL zrx zi _ 155 74 [(0, _), (1, _), (2, _), (3, _)] [_] _ _ _
                  refine zLcst vr_155_74 rfl (fun p4026 e4026 => ?_)
                  cases e4026
                  have e2 := k4025
                  rw [f1 el _ (fun z => nel z.symm), e1] at e2
                  cases e2
                  refine zSiload (m := 1) (k := 3) vr_155_77 rfl rfl rfl (fun x4027 e4027 => ?_)
                  cases e4027
                  refine zLput vr_155_78 rfl (fun p4028 k4028 e4028 t4028 g4028 => ?_)
                  cases e4028
                  have f2 : ∀ q k, ¬ q = p4019 → gF k4028 q k = gF k3996 q k := fun q k z => by rw [g4028.2.1, if_neg (fun y => z y.1), f1 q k z]
                  have hL2 := (f2 223 1 (fun z => n223 z.symm)).trans hL0
                  have hs2 := (f2 223 2 (fun z => n223 z.symm)).trans hs0
                  refine zSaload (m := 1) (k := 0) vr_155_81 rfl rfl rfl ?_
                  refine zLget vr_155_82 rfl (fun p4030 w4030 e4030 t4030 g4030 => ?_)
                  cases e4030
                  first | (rw [((f2 213 7 (fun z => n213 z.symm)).trans (st_213_7 hS0))] at g4030; cases g4030) | skip
                  refine zSiload (m := 1) (k := 1) vr_155_85 rfl rfl rfl (fun x4031 e4031 => ?_)
                  cases e4031
                  refine zScall vr_155_86 rfl rfl rfl (fun m4032 _ => C_get _ _ _ _ _ hL2 hs2) (fun v4032 h4032 u4032 q4032 => ?_) (fun E4032 h4032 u4032 q4032 => ?_)
                  · obtain ⟨eh4032, y4032, w4032, z4032, k4032⟩ := q4032
                    replace eh4032 := eh4032.symm
                    subst eh4032
                    cases z4032
                    show zL zrx zi _ 155 91 [(0, _), (1, _), (2, _), (3, _)] [_] _ _ _
                    refine zLcst vr_155_91 rfl (fun p4033 e4033 => ?_)
                    cases e4033
                    have e3 := k4032
                    rw [f2 el _ (fun z => nel z.symm), e1] at e3
                    cases e3
                    have e4 : gF h el x.toNatClampNeg = some (.ref p4019) := by
                      rw [← f0 el _ (fun z => h213 z.1)]
                      exact e1
                    obtain ⟨fa, fb, fc, fa1, fb1, fc1⟩ := hq (isr_y h0c (of_decide_eq_true q4000)) _ e4
                    have ga : ∀ k, ¬ k = 8 → ¬ k = 9 → gF k4028 p4019 k = gF h p4019 k := fun k z1 z2 => by
                      rw [g4028.2.1, if_neg (fun y => z2 y.2), g4021.2.1, if_neg (fun y => z1 y.2), f0 _ _ (fun y => n213 y.1)]
                    refine zScall vr_155_94 rfl rfl rfl (fun m4034 _ => C_strength _ _ _ _ ((ga 3 (by decide) (by decide)).trans fa1) ((ga 4 (by decide) (by decide)).trans fb1) ((ga 6 (by decide) (by decide)).trans fc1)) (fun v4034 h4034 u4034 q4034 => ?_) (fun E4034 h4034 u4034 q4034 => ?_)
                    · obtain ⟨eh4034, s4034, t4034, ps1, ps2, z4034⟩ := q4034
                      replace eh4034 := eh4034.symm
                      subst eh4034
                      cases z4034
                      show zL zrx zi _ 155 97 [(0, _), (1, _), (2, _), (3, _)] [_] _ _ _
                      refine zLiret vr_155_97 rfl (fun x4035 e4035 => ?_)
                      cases e4035
                      exact ⟨_, _, rfl, t0, Or.inl ⟨⟨isr_y h0c (of_decide_eq_true q4000), inB_y (by simpa using q4005), inB_y (of_decide_eq_true q4014)⟩, _, _, _, _, _, _, _, e4, (t0.2.2.1 _).symm.trans t4021, g4021, g4028, fa1, fb1, fc1, ps1, ps2, rfl⟩⟩
                    · obtain ⟨-, _, _, -, -, z⟩ := q4034
                      cases z
                  · obtain ⟨-, -, w, z, -⟩ := q4032
                    cases z
                · obtain ⟨-, -, w, z, -⟩ := q4025
                  cases z
              · obtain ⟨-, -, w, z, -⟩ := q4018
                cases z
            · cases e4014
              refine zSaload (m := 1) (k := 0) vr_155_41 rfl rfl rfl ?_
              refine zSp0 (pc' := 43) (st' := .int (2) :: _) vr_155_42 rfl rfl ?_
              refine zScall vr_155_43 rfl rfl rfl (fun m4038 _ => C_no _ _ _ _ _) (fun v4038 h4038 u4038 q4038 => ?_) (fun E4038 h4038 u4038 q4038 => ?_)
              · obtain ⟨gn4038, z4038⟩ := q4038
                cases z4038
                show zL zrx zi _ 155 46 [(0, _), (1, _), (2, _), (3, _)] [_] _ _ _
                refine zLiret vr_155_46 rfl (fun x4039 e4039 => ?_)
                cases e4039
                first
                  | exact ⟨_, _, rfl, t0, Or.inr (Or.inr ⟨isr_y h0c (of_decide_eq_true q4000), fun z => inB_n (of_decide_eq_true q4005) z.1, gn4038⟩)⟩
                  | exact ⟨_, _, rfl, t0, Or.inr (Or.inr ⟨isr_y h0c (of_decide_eq_true q4000), fun z => inB_n (by simpa using q4014) z.2, gn4038⟩)⟩
              · obtain ⟨-, z⟩ := q4038
                cases z
          · obtain ⟨-, z⟩ := q4013
            cases z
      · obtain ⟨-, z⟩ := q4004
        cases z
    · cases e4000
      refine zSaload (m := 1) (k := 0) vr_155_13 rfl rfl rfl ?_
      refine zSp0 (pc' := 15) (st' := .int (1) :: _) vr_155_14 rfl rfl ?_
      refine zScall vr_155_15 rfl rfl rfl (fun m4042 _ => C_no _ _ _ _ _) (fun v4042 h4042 u4042 q4042 => ?_) (fun E4042 h4042 u4042 q4042 => ?_)
      · obtain ⟨gn4042, z4042⟩ := q4042
        cases z4042
        show zL zrx zi _ 155 18 [(0, _), (1, _), (2, _), (3, _)] [_] _ _ _
        refine zLiret vr_155_18 rfl (fun x4043 e4043 => ?_)
        cases e4043
        exact ⟨_, _, rfl, t0, Or.inr (Or.inl ⟨isr_n h0c (by simpa using q4000), gn4042⟩)⟩
      · obtain ⟨-, z⟩ := q4042
        cases z
  · obtain ⟨-, z⟩ := q3999
    cases z
theorem C_swap (n : Nat) (p a b : Int32) (h : List zC) (u : Nat) (hS : Stc h) : zL zrx zi n 58 0 [(0, .ref 16), (1, .int p), (2, .int a), (3, .int b)] [] h u (fun o h2 _ => match o with
  | .inl v => (iN 6 p ∧ iN 6 a ∧ iN 6 b) ∧ ∃ r, v = some r ∧ wSw h h2 (19 + p.toNatClampNeg) a.toNatClampNeg b.toNatClampNeg r
  | .inr E => hExt h h2 ∧ ((E = 0 ∧ ¬ iN 6 p) ∨ (E = 1 ∧ iN 6 p ∧ ¬ (iN 6 a ∧ iN 6 b)))) := by
  refine zSiload (m := 1) (k := 1) vr_58_0 rfl rfl rfl (fun x4044 e4044 => ?_)
  cases e4044
  refine zSp0 (pc' := 3) (st' := .int (6) :: _) vr_58_1 rfl rfl ?_
  refine zScall vr_58_3 rfl rfl rfl (fun m4046 _ => C_num6 _ _ _ _ (m := 6) (by rfl)) (fun v4046 h4046 u4046 q4046 => ?_) (fun E4046 h4046 u4046 q4046 => ?_)
  · obtain ⟨eh4046, rfl, ip⟩ := q4046
    replace eh4046 := eh4046.symm
    subst eh4046
    show zL zrx zi _ 58 6 [(0, _), (1, _), (2, _), (3, _)] [] _ _ _
    refine zSiload (m := 1) (k := 2) vr_58_6 rfl rfl rfl (fun x4047 e4047 => ?_)
    cases e4047
    refine zSp0 (pc' := 8) (st' := .int (0) :: _) vr_58_7 rfl rfl ?_
    refine zSp0 (pc' := 9) (st' := .int (5) :: _) vr_58_8 rfl rfl ?_
    refine zScall vr_58_9 rfl rfl rfl (fun m4050 _ => C_val _ _ _ _ _ _) (fun v4050 h4050 u4050 q4050 => ?_) (fun E4050 h4050 u4050 q4050 => ?_)
    · obtain ⟨eh4050, rfl, k4050⟩ := q4050
      replace eh4050 := eh4050.symm
      subst eh4050
      have ia : iN 6 a := ⟨by have := k4050.1; have z0 : (0 : Int32).toInt = 0 := rfl; omega, by have := k4050.2; have z5 : (5 : Int32).toInt = 5 := rfl; omega⟩
      show zL zrx zi _ 58 12 [(0, _), (1, _), (2, _), (3, _)] [] _ _ _
      refine zSiload (m := 1) (k := 3) vr_58_12 rfl rfl rfl (fun x4051 e4051 => ?_)
      cases e4051
      refine zSp0 (pc' := 14) (st' := .int (0) :: _) vr_58_13 rfl rfl ?_
      refine zSp0 (pc' := 15) (st' := .int (5) :: _) vr_58_14 rfl rfl ?_
      refine zScall vr_58_15 rfl rfl rfl (fun m4054 _ => C_val _ _ _ _ _ _) (fun v4054 h4054 u4054 q4054 => ?_) (fun E4054 h4054 u4054 q4054 => ?_)
      · obtain ⟨eh4054, rfl, k4054⟩ := q4054
        replace eh4054 := eh4054.symm
        subst eh4054
        have ib : iN 6 b := ⟨by have := k4054.1; have z0 : (0 : Int32).toInt = 0 := rfl; omega, by have := k4054.2; have z5 : (5 : Int32).toInt = 5 := rfl; omega⟩
        show zL zrx zi _ 58 18 [(0, _), (1, _), (2, _), (3, _)] [] _ _ _
        have hp := iN_lt (m := 6) ip
        have ha := iN_lt (m := 6) ia
        have hb := iN_lt (m := 6) ib
        refine zSaload (m := 1) (k := 0) vr_58_18 rfl rfl rfl ?_
        refine zLget vr_58_19 rfl (fun p4056 w4056 e4056 t4056 g4056 => ?_)
        cases e4056
        first | (rw [(st_16_5 hS)] at g4056; cases g4056) | (rw [(st_row hS hp)] at g4056; cases g4056) | skip
        refine zSiload (m := 1) (k := 1) vr_58_22 rfl rfl rfl (fun x4057 e4057 => ?_)
        cases e4057
        refine zLaald vr_58_23 rfl (fun p4058 x4058 w4058 e4058 f4058 c4058 t4058 g4058 => ?_)
        cases e4058
        cases f4058
        first | (rw [(st_16_5 hS)] at g4058; cases g4058) | (rw [(st_row hS hp)] at g4058; cases g4058) | skip
        refine zSiload (m := 1) (k := 2) vr_58_24 rfl rfl rfl (fun x4059 e4059 => ?_)
        cases e4059
        refine zLiald vr_58_25 rfl (fun p4060 x4060 w4060 e4060 f4060 c4060 t4060 g4060 => ?_)
        cases e4060
        cases f4060
        first | (rw [(st_16_5 hS)] at g4060; cases g4060) | (rw [(st_row hS hp)] at g4060; cases g4060) | skip
        have w1 := g4060
        refine zSistore (m := 2) (k := 4) vr_58_26 rfl rfl (fun x4061 e4061 => ?_)
        cases e4061
        show zL zrx zi _ 58 28 [(4, _), (0, _), (1, _), (2, _), (3, _)] [] _ _ _
        refine zSaload (m := 1) (k := 0) vr_58_28 rfl rfl rfl ?_
        refine zLget vr_58_29 rfl (fun p4063 w4063 e4063 t4063 g4063 => ?_)
        cases e4063
        first | (rw [(st_16_5 hS)] at g4063; cases g4063) | (rw [(st_row hS hp)] at g4063; cases g4063) | skip
        refine zSiload (m := 1) (k := 1) vr_58_32 rfl rfl rfl (fun x4064 e4064 => ?_)
        cases e4064
        refine zLaald vr_58_33 rfl (fun p4065 x4065 w4065 e4065 f4065 c4065 t4065 g4065 => ?_)
        cases e4065
        cases f4065
        first | (rw [(st_16_5 hS)] at g4065; cases g4065) | (rw [(st_row hS hp)] at g4065; cases g4065) | skip
        refine zSiload (m := 1) (k := 2) vr_58_34 rfl rfl rfl (fun x4066 e4066 => ?_)
        cases e4066
        refine zSaload (m := 1) (k := 0) vr_58_35 rfl rfl rfl ?_
        refine zLget vr_58_36 rfl (fun p4068 w4068 e4068 t4068 g4068 => ?_)
        cases e4068
        first | (rw [(st_16_5 hS)] at g4068; cases g4068) | (rw [(st_row hS hp)] at g4068; cases g4068) | skip
        refine zSiload (m := 1) (k := 1) vr_58_39 rfl rfl rfl (fun x4069 e4069 => ?_)
        cases e4069
        refine zLaald vr_58_40 rfl (fun p4070 x4070 w4070 e4070 f4070 c4070 t4070 g4070 => ?_)
        cases e4070
        cases f4070
        first | (rw [(st_16_5 hS)] at g4070; cases g4070) | (rw [(st_row hS hp)] at g4070; cases g4070) | skip
        refine zSiload (m := 1) (k := 3) vr_58_41 rfl rfl rfl (fun x4071 e4071 => ?_)
        cases e4071
        refine zLiald vr_58_42 rfl (fun p4072 x4072 w4072 e4072 f4072 c4072 t4072 g4072 => ?_)
        cases e4072
        cases f4072
        first | (rw [(st_16_5 hS)] at g4072; cases g4072) | (rw [(st_row hS hp)] at g4072; cases g4072) | skip
        have w2 := g4072
        refine zLiast vr_58_43 rfl (fun p4073 x4073 z4073 k4073 e4073 f4073 d4073 c4073 t4073 g4073 => ?_)
        cases e4073
        cases f4073
        cases d4073
        have hS1 := hS.row hp g4073
        have p1 := g4073
        refine zSaload (m := 1) (k := 0) vr_58_44 rfl rfl rfl ?_
        refine zLget vr_58_45 rfl (fun p4075 w4075 e4075 t4075 g4075 => ?_)
        cases e4075
        first | (rw [(st_16_5 hS1)] at g4075; cases g4075) | (rw [(st_row hS1 hp)] at g4075; cases g4075) | skip
        refine zSiload (m := 1) (k := 1) vr_58_48 rfl rfl rfl (fun x4076 e4076 => ?_)
        cases e4076
        refine zLaald vr_58_49 rfl (fun p4077 x4077 w4077 e4077 f4077 c4077 t4077 g4077 => ?_)
        cases e4077
        cases f4077
        first | (rw [(st_16_5 hS1)] at g4077; cases g4077) | (rw [(st_row hS1 hp)] at g4077; cases g4077) | skip
        refine zSiload (m := 1) (k := 3) vr_58_50 rfl rfl rfl (fun x4078 e4078 => ?_)
        cases e4078
        refine zSiload (m := 2) (k := 4) vr_58_51 rfl rfl rfl (fun x4079 e4079 => ?_)
        cases e4079
        refine zLiast vr_58_53 rfl (fun p4080 x4080 z4080 k4080 e4080 f4080 d4080 c4080 t4080 g4080 => ?_)
        cases e4080
        cases f4080
        cases d4080
        have hS2 := hS1.row hp g4080
        have p2 := g4080
        refine zSaload (m := 1) (k := 0) vr_58_54 rfl rfl rfl ?_
        refine zLget vr_58_55 rfl (fun p4082 w4082 e4082 t4082 g4082 => ?_)
        cases e4082
        first | (rw [(st_16_5 hS2)] at g4082; cases g4082) | (rw [(st_row hS2 hp)] at g4082; cases g4082) | skip
        refine zSiload (m := 1) (k := 1) vr_58_58 rfl rfl rfl (fun x4083 e4083 => ?_)
        cases e4083
        refine zLaald vr_58_59 rfl (fun p4084 x4084 w4084 e4084 f4084 c4084 t4084 g4084 => ?_)
        cases e4084
        cases f4084
        first | (rw [(st_16_5 hS2)] at g4084; cases g4084) | (rw [(st_row hS2 hp)] at g4084; cases g4084) | skip
        refine zSiload (m := 1) (k := 2) vr_58_60 rfl rfl rfl (fun x4085 e4085 => ?_)
        cases e4085
        refine zLiald vr_58_61 rfl (fun p4086 x4086 w4086 e4086 f4086 c4086 t4086 g4086 => ?_)
        cases e4086
        cases f4086
        first | (rw [(st_16_5 hS2)] at g4086; cases g4086) | (rw [(st_row hS2 hp)] at g4086; cases g4086) | skip
        have w3 := g4086
        refine zLiret vr_58_62 rfl (fun x4087 e4087 => ?_)
        cases e4087
        exact ⟨⟨ip, ia, ib⟩, _, rfl, _, _, _, _, w1, w2, p1, p2, w3, rfl⟩
      · obtain ⟨rfl, q1, q2⟩ := q4054
        rw [zCat_no vh_58_15_1]
        have z5 : (5 : Int32).toInt = 5 := rfl
        have z0 : (0 : Int32).toInt = 0 := rfl
        refine ⟨q2, Or.inr ⟨rfl, ip, fun z => q1 ?_⟩⟩
        obtain ⟨⟨y1, y2⟩, y3, y4⟩ := z
        constructor <;> omega
    · obtain ⟨rfl, q1, q2⟩ := q4050
      rw [zCat_no vh_58_9_1]
      have z5 : (5 : Int32).toInt = 5 := rfl
      have z0 : (0 : Int32).toInt = 0 := rfl
      refine ⟨q2, Or.inr ⟨rfl, ip, fun z => q1 ?_⟩⟩
      obtain ⟨⟨y1, y2⟩, y3, y4⟩ := z
      constructor <;> omega
  · obtain ⟨rfl, q1, q2⟩ := q4046
    rw [zCat_no vh_58_3_0]
    exact ⟨q2, Or.inl ⟨rfl, q1⟩⟩
abbrev Q_Lswap (p a b : Int32) (h : List zC) : zK := fun o h2 _ => ∃ k : Int32, o = .inl (some (.int k)) ∧
  ((k = 0 ∧ (iN 6 p ∧ iN 6 a ∧ iN 6 b) ∧ ∃ (r : Int32) (h1 : List zC), wSw h h1 (19 + p.toNatClampNeg) a.toNatClampNeg b.toNatClampNeg (.int r) ∧ hPut h1 h2 238 0 (.long r.toInt64)) ∨ (k = 1 ∧ ¬ iN 6 p ∧ hExt h h2) ∨ (k = 2 ∧ iN 6 p ∧ ¬ (iN 6 a ∧ iN 6 b) ∧ hExt h h2))
theorem C_Lswap (n : Nat) (p a b : Int32) (h : List zC) (u : Nat) (hS : Stc h) : zL zrx zi n 209 0 [(0, .ref 16), (1, .int p), (2, .int a), (3, .int b), (4, .ref 238)] [] h u (Q_Lswap p a b h) := by
  refine zSaload (m := 2) (k := 4) vr_209_0 rfl rfl rfl ?_
  refine zSaload (m := 1) (k := 0) vr_209_2 rfl rfl rfl ?_
  refine zSiload (m := 1) (k := 1) vr_209_3 rfl rfl rfl (fun x4090 e4090 => ?_)
  cases e4090
  refine zSiload (m := 1) (k := 2) vr_209_4 rfl rfl rfl (fun x4091 e4091 => ?_)
  cases e4091
  refine zSiload (m := 1) (k := 3) vr_209_5 rfl rfl rfl (fun x4092 e4092 => ?_)
  cases e4092
  refine zScall vr_209_6 rfl rfl rfl (fun m4093 _ => C_swap _ _ _ _ _ _ hS) (fun v4093 h4093 u4093 q4093 => ?_) (fun E4093 h4093 u4093 q4093 => ?_)
  · obtain ⟨k1, r4093, rfl, k2⟩ := q4093
    show zL zrx zi _ 209 9 [(0, _), (1, _), (2, _), (3, _), (4, _)] [_, _] _ _ _
    refine zS1 (f := fun x => .long x.toInt64) vr_209_9 rfl rfl (fun x4094 e4094 => ?_)
    cases e4094
    refine zLput vr_209_10 rfl (fun p4095 k4095 e4095 t4095 g4095 => ?_)
    cases e4095
    have gP := g4095
    refine zSgo (t := 24) vr_209_13 rfl rfl ?_
    refine zSp0 (pc' := 25) (st' := .int (0) :: _) vr_209_24 rfl rfl ?_
    refine zLiret vr_209_25 rfl (fun x4098 e4098 => ?_)
    cases e4098
    exact ⟨_, rfl, Or.inl ⟨rfl, k1, _, _, k2, gP⟩⟩
  · obtain ⟨q1, ⟨rfl, z⟩ | ⟨rfl, z⟩⟩ := q4093
    · rw [zCat_hit (k := 5) (m := 2) vh_209_6_0 vr_209_16 rfl (by decide)]
      show zL zrx zi _ 209 18 [(0, _), (1, _), (2, _), (3, _), (4, _)] [] _ _ _
      refine zSp0 (pc' := 19) (st' := .int (1) :: _) vr_209_18 rfl rfl ?_
      refine zLiret vr_209_19 rfl (fun x4100 e4100 => ?_)
      cases e4100
      exact ⟨_, rfl, Or.inr (Or.inl ⟨rfl, z, q1⟩)⟩
    · rw [zCat_hit (k := 5) (m := 2) vh_209_6_1 vr_209_20 rfl (by decide)]
      show zL zrx zi _ 209 22 [(0, _), (1, _), (2, _), (3, _), (4, _)] [] _ _ _
      refine zSp0 (pc' := 23) (st' := .int (2) :: _) vr_209_22 rfl rfl ?_
      refine zLiret vr_209_23 rfl (fun x4102 e4102 => ?_)
      cases e4102
      exact ⟨_, rfl, Or.inr (Or.inr ⟨rfl, z.1, z.2, q1⟩)⟩
abbrev Q_mswap (p a b : Int32) (h : List zC) : zK := fun o h2 _ => ∃ (r : Int32) (h0 : List zC), o = .inl (some (.int r)) ∧ hPut h h0 213 0 (.int 0) ∧
  (((iN 6 p ∧ iN 6 a ∧ iN 6 b) ∧ wSw h0 h2 (216 + p.toNatClampNeg) a.toNatClampNeg b.toNatClampNeg (.int r)) ∨ (¬ iN 6 p ∧ hPut h0 h2 213 0 (.int 1)) ∨ (iN 6 p ∧ ¬ (iN 6 a ∧ iN 6 b) ∧ hPut h0 h2 213 0 (.int 2)))
theorem C_mswap (n : Nat) (p a b : Int32) (h : List zC) (u : Nat) (hS : Stc h) : zL zrx zi n 151 0 [(0, .ref 213), (1, .int p), (2, .int a), (3, .int b)] [] h u (Q_mswap p a b h) := by
  refine zSaload (m := 1) (k := 0) vr_151_0 rfl rfl rfl ?_
  refine zSp0 (pc' := 2) (st' := .int (0) :: _) vr_151_1 rfl rfl ?_
  refine zLput vr_151_2 rfl (fun p4105 k4105 e4105 t4105 g4105 => ?_)
  cases e4105
  have t0 := g4105
  have hS0 := hS.thr g4105
  refine zSiload (m := 1) (k := 1) vr_151_5 rfl rfl rfl (fun x4106 e4106 => ?_)
  cases e4106
  refine zSp0 (pc' := 7) (st' := .int (0) :: _) vr_151_6 rfl rfl ?_
  refine zSp0 (pc' := 8) (st' := .int (5) :: _) vr_151_7 rfl rfl ?_
  refine zScall vr_151_8 rfl rfl rfl (fun m4109 _ => C_in _ _ _ _ _ _) (fun v4109 h4109 u4109 q4109 => ?_) (fun E4109 h4109 u4109 q4109 => ?_)
  · obtain ⟨eh4109, z4109⟩ := q4109
    replace eh4109 := eh4109.symm
    subst eh4109
    cases z4109
    show zL zrx zi _ 151 11 [(0, _), (1, _), (2, _), (3, _)] [_] _ _ _
    refine zSb1 (f := fun x => decide (¬ x = 0)) (off := 9) (t := 20) vr_151_11 rfl rfl rfl (fun x4110 e4110 q4110 => ?_) (fun x4110 e4110 q4110 => ?_)
    · cases e4110
      refine zSiload (m := 1) (k := 2) vr_151_20 rfl rfl rfl (fun x4111 e4111 => ?_)
      cases e4111
      refine zSp0 (pc' := 22) (st' := .int (0) :: _) vr_151_21 rfl rfl ?_
      refine zSp0 (pc' := 23) (st' := .int (5) :: _) vr_151_22 rfl rfl ?_
      refine zScall vr_151_23 rfl rfl rfl (fun m4114 _ => C_in _ _ _ _ _ _) (fun v4114 h4114 u4114 q4114 => ?_) (fun E4114 h4114 u4114 q4114 => ?_)
      · obtain ⟨eh4114, z4114⟩ := q4114
        replace eh4114 := eh4114.symm
        subst eh4114
        cases z4114
        show zL zrx zi _ 151 26 [(0, _), (1, _), (2, _), (3, _)] [_] _ _ _
        refine zSb1 (f := fun x => decide (x = 0)) (off := 12) (t := 38) vr_151_26 rfl rfl rfl (fun x4115 e4115 q4115 => ?_) (fun x4115 e4115 q4115 => ?_)
        · cases e4115
          refine zSaload (m := 1) (k := 0) vr_151_38 rfl rfl rfl ?_
          refine zSp0 (pc' := 40) (st' := .int (2) :: _) vr_151_39 rfl rfl ?_
          refine zScall vr_151_40 rfl rfl rfl (fun m4118 _ => C_no _ _ _ _ _) (fun v4118 h4118 u4118 q4118 => ?_) (fun E4118 h4118 u4118 q4118 => ?_)
          · obtain ⟨gn4118, z4118⟩ := q4118
            cases z4118
            show zL zrx zi _ 151 43 [(0, _), (1, _), (2, _), (3, _)] [_] _ _ _
            refine zLiret vr_151_43 rfl (fun x4119 e4119 => ?_)
            cases e4119
            first
              | exact ⟨_, _, rfl, t0, Or.inr (Or.inr ⟨in6_y (of_decide_eq_true q4110), fun z => in6_n (of_decide_eq_true q4115) z.1, gn4118⟩)⟩
              | exact ⟨_, _, rfl, t0, Or.inr (Or.inr ⟨in6_y (of_decide_eq_true q4110), fun z => in6_n (by simpa using q4067) z.2, gn4118⟩)⟩
          · obtain ⟨-, z⟩ := q4118
            cases z
        · cases e4115
          refine zSiload (m := 1) (k := 3) vr_151_29 rfl rfl rfl (fun x4120 e4120 => ?_)
          cases e4120
          refine zSp0 (pc' := 31) (st' := .int (0) :: _) vr_151_30 rfl rfl ?_
          refine zSp0 (pc' := 32) (st' := .int (5) :: _) vr_151_31 rfl rfl ?_
          refine zScall vr_151_32 rfl rfl rfl (fun m4123 _ => C_in _ _ _ _ _ _) (fun v4123 h4123 u4123 q4123 => ?_) (fun E4123 h4123 u4123 q4123 => ?_)
          · obtain ⟨eh4123, z4123⟩ := q4123
            replace eh4123 := eh4123.symm
            subst eh4123
            cases z4123
            show zL zrx zi _ 151 35 [(0, _), (1, _), (2, _), (3, _)] [_] _ _ _
            refine zSb1 (f := fun x => decide (¬ x = 0)) (off := 9) (t := 44) vr_151_35 rfl rfl rfl (fun x4124 e4124 q4124 => ?_) (fun x4124 e4124 q4124 => ?_)
            · cases e4124
              have ip := in6_y (of_decide_eq_true q4110)
              have ia := in6_y (x := a) (by simpa using q4115)
              have ib := in6_y (of_decide_eq_true q4124)
              have hp := iN_lt (m := 6) ip
              have ha := iN_lt (m := 6) ia
              have hb := iN_lt (m := 6) ib
              refine zSaload (m := 1) (k := 0) vr_151_44 rfl rfl rfl ?_
              refine zLget vr_151_45 rfl (fun p4126 w4126 e4126 t4126 g4126 => ?_)
              cases e4126
              first | (rw [(st_213_5 hS0)] at g4126; cases g4126) | (rw [(st_mrow hS0 hp)] at g4126; cases g4126) | skip
              refine zSiload (m := 1) (k := 1) vr_151_48 rfl rfl rfl (fun x4127 e4127 => ?_)
              cases e4127
              refine zLaald vr_151_49 rfl (fun p4128 x4128 w4128 e4128 f4128 c4128 t4128 g4128 => ?_)
              cases e4128
              cases f4128
              first | (rw [(st_213_5 hS0)] at g4128; cases g4128) | (rw [(st_mrow hS0 hp)] at g4128; cases g4128) | skip
              refine zSiload (m := 1) (k := 2) vr_151_50 rfl rfl rfl (fun x4129 e4129 => ?_)
              cases e4129
              refine zLiald vr_151_51 rfl (fun p4130 x4130 w4130 e4130 f4130 c4130 t4130 g4130 => ?_)
              cases e4130
              cases f4130
              first | (rw [(st_213_5 hS0)] at g4130; cases g4130) | (rw [(st_mrow hS0 hp)] at g4130; cases g4130) | skip
              have w1 := g4130
              refine zSistore (m := 2) (k := 4) vr_151_52 rfl rfl (fun x4131 e4131 => ?_)
              cases e4131
              show zL zrx zi _ 151 54 [(4, _), (0, _), (1, _), (2, _), (3, _)] [] _ _ _
              refine zSaload (m := 1) (k := 0) vr_151_54 rfl rfl rfl ?_
              refine zLget vr_151_55 rfl (fun p4133 w4133 e4133 t4133 g4133 => ?_)
              cases e4133
              first | (rw [(st_213_5 hS0)] at g4133; cases g4133) | (rw [(st_mrow hS0 hp)] at g4133; cases g4133) | skip
              refine zSiload (m := 1) (k := 1) vr_151_58 rfl rfl rfl (fun x4134 e4134 => ?_)
              cases e4134
              refine zLaald vr_151_59 rfl (fun p4135 x4135 w4135 e4135 f4135 c4135 t4135 g4135 => ?_)
              cases e4135
              cases f4135
              first | (rw [(st_213_5 hS0)] at g4135; cases g4135) | (rw [(st_mrow hS0 hp)] at g4135; cases g4135) | skip
              refine zSiload (m := 1) (k := 2) vr_151_60 rfl rfl rfl (fun x4136 e4136 => ?_)
              cases e4136
              refine zSaload (m := 1) (k := 0) vr_151_61 rfl rfl rfl ?_
              refine zLget vr_151_62 rfl (fun p4138 w4138 e4138 t4138 g4138 => ?_)
              cases e4138
              first | (rw [(st_213_5 hS0)] at g4138; cases g4138) | (rw [(st_mrow hS0 hp)] at g4138; cases g4138) | skip
              refine zSiload (m := 1) (k := 1) vr_151_65 rfl rfl rfl (fun x4139 e4139 => ?_)
              cases e4139
              refine zLaald vr_151_66 rfl (fun p4140 x4140 w4140 e4140 f4140 c4140 t4140 g4140 => ?_)
              cases e4140
              cases f4140
              first | (rw [(st_213_5 hS0)] at g4140; cases g4140) | (rw [(st_mrow hS0 hp)] at g4140; cases g4140) | skip
              refine zSiload (m := 1) (k := 3) vr_151_67 rfl rfl rfl (fun x4141 e4141 => ?_)
              cases e4141
              refine zLiald vr_151_68 rfl (fun p4142 x4142 w4142 e4142 f4142 c4142 t4142 g4142 => ?_)
              cases e4142
              cases f4142
              first | (rw [(st_213_5 hS0)] at g4142; cases g4142) | (rw [(st_mrow hS0 hp)] at g4142; cases g4142) | skip
              have w2 := g4142
              refine zLiast vr_151_69 rfl (fun p4143 x4143 z4143 k4143 e4143 f4143 d4143 c4143 t4143 g4143 => ?_)
              cases e4143
              cases f4143
              cases d4143
              have hS1 := hS0.mrow hp g4143
              have p1 := g4143
              refine zSaload (m := 1) (k := 0) vr_151_70 rfl rfl rfl ?_
              refine zLget vr_151_71 rfl (fun p4145 w4145 e4145 t4145 g4145 => ?_)
              cases e4145
              first | (rw [(st_213_5 hS1)] at g4145; cases g4145) | (rw [(st_mrow hS1 hp)] at g4145; cases g4145) | skip
              refine zSiload (m := 1) (k := 1) vr_151_74 rfl rfl rfl (fun x4146 e4146 => ?_)
              cases e4146
              refine zLaald vr_151_75 rfl (fun p4147 x4147 w4147 e4147 f4147 c4147 t4147 g4147 => ?_)
              cases e4147
              cases f4147
              first | (rw [(st_213_5 hS1)] at g4147; cases g4147) | (rw [(st_mrow hS1 hp)] at g4147; cases g4147) | skip
              refine zSiload (m := 1) (k := 3) vr_151_76 rfl rfl rfl (fun x4148 e4148 => ?_)
              cases e4148
              refine zSiload (m := 2) (k := 4) vr_151_77 rfl rfl rfl (fun x4149 e4149 => ?_)
              cases e4149
              refine zLiast vr_151_79 rfl (fun p4150 x4150 z4150 k4150 e4150 f4150 d4150 c4150 t4150 g4150 => ?_)
              cases e4150
              cases f4150
              cases d4150
              have hS2 := hS1.mrow hp g4150
              have p2 := g4150
              refine zSaload (m := 1) (k := 0) vr_151_80 rfl rfl rfl ?_
              refine zLget vr_151_81 rfl (fun p4152 w4152 e4152 t4152 g4152 => ?_)
              cases e4152
              first | (rw [(st_213_5 hS2)] at g4152; cases g4152) | (rw [(st_mrow hS2 hp)] at g4152; cases g4152) | skip
              refine zSiload (m := 1) (k := 1) vr_151_84 rfl rfl rfl (fun x4153 e4153 => ?_)
              cases e4153
              refine zLaald vr_151_85 rfl (fun p4154 x4154 w4154 e4154 f4154 c4154 t4154 g4154 => ?_)
              cases e4154
              cases f4154
              first | (rw [(st_213_5 hS2)] at g4154; cases g4154) | (rw [(st_mrow hS2 hp)] at g4154; cases g4154) | skip
              refine zSiload (m := 1) (k := 2) vr_151_86 rfl rfl rfl (fun x4155 e4155 => ?_)
              cases e4155
              refine zLiald vr_151_87 rfl (fun p4156 x4156 w4156 e4156 f4156 c4156 t4156 g4156 => ?_)
              cases e4156
              cases f4156
              first | (rw [(st_213_5 hS2)] at g4156; cases g4156) | (rw [(st_mrow hS2 hp)] at g4156; cases g4156) | skip
              have w3 := g4156
              refine zLiret vr_151_88 rfl (fun x4157 e4157 => ?_)
              cases e4157
              exact ⟨_, _, rfl, t0, Or.inl ⟨⟨ip, ia, ib⟩, _, _, _, _, w1, w2, p1, p2, w3, rfl⟩⟩
            · cases e4124
              refine zSaload (m := 1) (k := 0) vr_151_38 rfl rfl rfl ?_
              refine zSp0 (pc' := 40) (st' := .int (2) :: _) vr_151_39 rfl rfl ?_
              refine zScall vr_151_40 rfl rfl rfl (fun m4160 _ => C_no _ _ _ _ _) (fun v4160 h4160 u4160 q4160 => ?_) (fun E4160 h4160 u4160 q4160 => ?_)
              · obtain ⟨gn4160, z4160⟩ := q4160
                cases z4160
                show zL zrx zi _ 151 43 [(0, _), (1, _), (2, _), (3, _)] [_] _ _ _
                refine zLiret vr_151_43 rfl (fun x4161 e4161 => ?_)
                cases e4161
                first
                  | exact ⟨_, _, rfl, t0, Or.inr (Or.inr ⟨in6_y (of_decide_eq_true q4110), fun z => in6_n (of_decide_eq_true q4115) z.1, gn4160⟩)⟩
                  | exact ⟨_, _, rfl, t0, Or.inr (Or.inr ⟨in6_y (of_decide_eq_true q4110), fun z => in6_n (by simpa using q4124) z.2, gn4160⟩)⟩
              · obtain ⟨-, z⟩ := q4160
                cases z
          · obtain ⟨-, z⟩ := q4123
            cases z
      · obtain ⟨-, z⟩ := q4114
        cases z
    · cases e4110
      refine zSaload (m := 1) (k := 0) vr_151_14 rfl rfl rfl ?_
      refine zSp0 (pc' := 16) (st' := .int (1) :: _) vr_151_15 rfl rfl ?_
      refine zScall vr_151_16 rfl rfl rfl (fun m4164 _ => C_no _ _ _ _ _) (fun v4164 h4164 u4164 q4164 => ?_) (fun E4164 h4164 u4164 q4164 => ?_)
      · obtain ⟨gn4164, z4164⟩ := q4164
        cases z4164
        show zL zrx zi _ 151 19 [(0, _), (1, _), (2, _), (3, _)] [_] _ _ _
        refine zLiret vr_151_19 rfl (fun x4165 e4165 => ?_)
        cases e4165
        exact ⟨_, _, rfl, t0, Or.inr (Or.inl ⟨in6_n (by simpa using q4110), gn4164⟩)⟩
      · obtain ⟨-, z⟩ := q4164
        cases z
  · obtain ⟨-, z⟩ := q4109
    cases z
theorem C_means (n : Nat) (p a : Int32) (h : List zC) (u : Nat) (hS : Stc h) : zL zrx zi n 77 0 [(0, .ref 16), (1, .int p), (2, .int a)] [] h u (fun o h2 _ => match o with
  | .inl v => h2 = h ∧ (iN 6 p ∧ iN 6 a) ∧ ∃ x : Int32, v = some (.int x) ∧ gF h (19 + p.toNatClampNeg) a.toNatClampNeg = some (.int x)
  | .inr E => hExt h h2 ∧ E = 0 ∧ ¬ (iN 6 p ∧ iN 6 a)) := by
  refine zSiload (m := 1) (k := 1) vr_77_0 rfl rfl rfl (fun x4166 e4166 => ?_)
  cases e4166
  refine zSp0 (pc' := 3) (st' := .int (6) :: _) vr_77_1 rfl rfl ?_
  refine zScall vr_77_3 rfl rfl rfl (fun m4168 _ => C_num6 _ _ _ _ (m := 6) (by rfl)) (fun v4168 h4168 u4168 q4168 => ?_) (fun E4168 h4168 u4168 q4168 => ?_)
  · obtain ⟨eh4168, rfl, ip⟩ := q4168
    replace eh4168 := eh4168.symm
    subst eh4168
    show zL zrx zi _ 77 6 [(0, _), (1, _), (2, _)] [] _ _ _
    refine zSiload (m := 1) (k := 2) vr_77_6 rfl rfl rfl (fun x4169 e4169 => ?_)
    cases e4169
    refine zSp0 (pc' := 9) (st' := .int (6) :: _) vr_77_7 rfl rfl ?_
    refine zScall vr_77_9 rfl rfl rfl (fun m4171 _ => C_num6 _ _ _ _ (m := 6) (by rfl)) (fun v4171 h4171 u4171 q4171 => ?_) (fun E4171 h4171 u4171 q4171 => ?_)
    · obtain ⟨eh4171, rfl, ia⟩ := q4171
      replace eh4171 := eh4171.symm
      subst eh4171
      show zL zrx zi _ 77 12 [(0, _), (1, _), (2, _)] [] _ _ _
      have hp := iN_lt (m := 6) ip
      have ha := iN_lt (m := 6) ia
      refine zSaload (m := 1) (k := 0) vr_77_12 rfl rfl rfl ?_
      refine zLget vr_77_13 rfl (fun p4173 w4173 e4173 t4173 g4173 => ?_)
      cases e4173
      first | (rw [(st_16_5 hS)] at g4173; cases g4173) | (rw [(st_row hS hp)] at g4173; cases g4173) | skip
      refine zSiload (m := 1) (k := 1) vr_77_16 rfl rfl rfl (fun x4174 e4174 => ?_)
      cases e4174
      refine zLaald vr_77_17 rfl (fun p4175 x4175 w4175 e4175 f4175 c4175 t4175 g4175 => ?_)
      cases e4175
      cases f4175
      first | (rw [(st_16_5 hS)] at g4175; cases g4175) | (rw [(st_row hS hp)] at g4175; cases g4175) | skip
      refine zSiload (m := 1) (k := 2) vr_77_18 rfl rfl rfl (fun x4176 e4176 => ?_)
      cases e4176
      refine zLiald vr_77_19 rfl (fun p4177 x4177 w4177 e4177 f4177 c4177 t4177 g4177 => ?_)
      cases e4177
      cases f4177
      first | (rw [(st_16_5 hS)] at g4177; cases g4177) | (rw [(st_row hS hp)] at g4177; cases g4177) | skip
      have w1 := g4177
      refine zLiret vr_77_20 rfl (fun x4178 e4178 => ?_)
      cases e4178
      exact ⟨rfl, ⟨ip, ia⟩, _, rfl, w1⟩
    · obtain ⟨rfl, q1, q2⟩ := q4171
      rw [zCat_no vh_77_9_0]
      exact ⟨q2, rfl, fun z => q1 z.2⟩
  · obtain ⟨rfl, q1, q2⟩ := q4168
    rw [zCat_no vh_77_3_0]
    exact ⟨q2, rfl, fun z => q1 z.1⟩
abbrev Q_Lmeans (p a : Int32) (h : List zC) : zK := fun o h2 _ => ∃ k : Int32, o = .inl (some (.int k)) ∧
  ((k = 0 ∧ (iN 6 p ∧ iN 6 a) ∧ ∃ r : Int32, gF h (19 + p.toNatClampNeg) a.toNatClampNeg = some (.int r) ∧ hPut h h2 238 0 (.long r.toInt64)) ∨ (k = 1 ∧ ¬ (iN 6 p ∧ iN 6 a) ∧ hExt h h2))
theorem C_Lmeans (n : Nat) (p a : Int32) (h : List zC) (u : Nat) (hS : Stc h) : zL zrx zi n 227 0 [(0, .ref 16), (1, .int p), (2, .int a), (3, .ref 238)] [] h u (Q_Lmeans p a h) := by
  refine zSaload (m := 1) (k := 3) vr_227_0 rfl rfl rfl ?_
  refine zSaload (m := 1) (k := 0) vr_227_1 rfl rfl rfl ?_
  refine zSiload (m := 1) (k := 1) vr_227_2 rfl rfl rfl (fun x4181 e4181 => ?_)
  cases e4181
  refine zSiload (m := 1) (k := 2) vr_227_3 rfl rfl rfl (fun x4182 e4182 => ?_)
  cases e4182
  refine zScall vr_227_4 rfl rfl rfl (fun m4183 _ => C_means _ _ _ _ _ hS) (fun v4183 h4183 u4183 q4183 => ?_) (fun E4183 h4183 u4183 q4183 => ?_)
  · obtain ⟨eh4183, k1, r4183, rfl, k2⟩ := q4183
    replace eh4183 := eh4183.symm
    subst eh4183
    show zL zrx zi _ 227 7 [(0, _), (1, _), (2, _), (3, _)] [_, _] _ _ _
    refine zS1 (f := fun x => .long x.toInt64) vr_227_7 rfl rfl (fun x4184 e4184 => ?_)
    cases e4184
    refine zLput vr_227_8 rfl (fun p4185 k4185 e4185 t4185 g4185 => ?_)
    cases e4185
    have gP := g4185
    refine zSgo (t := 18) vr_227_11 rfl rfl ?_
    refine zSp0 (pc' := 19) (st' := .int (0) :: _) vr_227_18 rfl rfl ?_
    refine zLiret vr_227_19 rfl (fun x4188 e4188 => ?_)
    cases e4188
    exact ⟨_, rfl, Or.inl ⟨rfl, k1, _, k2, gP⟩⟩
  · obtain ⟨q1, rfl, z⟩ := q4183
    rw [zCat_hit (k := 4) (m := 2) vh_227_4_0 vr_227_14 rfl (by decide)]
    show zL zrx zi _ 227 16 [(0, _), (1, _), (2, _), (3, _)] [] _ _ _
    refine zSp0 (pc' := 17) (st' := .int (1) :: _) vr_227_16 rfl rfl ?_
    refine zLiret vr_227_17 rfl (fun x4190 e4190 => ?_)
    cases e4190
    exact ⟨_, rfl, Or.inr ⟨rfl, z, q1⟩⟩
abbrev Q_mmeans (p a : Int32) (h : List zC) : zK := fun o h2 _ => ∃ (r : Int32) (h0 : List zC), o = .inl (some (.int r)) ∧ hPut h h0 213 0 (.int 0) ∧
  (((iN 6 p ∧ iN 6 a) ∧ h2 = h0 ∧ gF h0 (216 + p.toNatClampNeg) a.toNatClampNeg = some (.int r)) ∨ (¬ (iN 6 p ∧ iN 6 a) ∧ hPut h0 h2 213 0 (.int 1)))
theorem C_mmeans (n : Nat) (p a : Int32) (h : List zC) (u : Nat) (hS : Stc h) : zL zrx zi n 178 0 [(0, .ref 213), (1, .int p), (2, .int a)] [] h u (Q_mmeans p a h) := by
  refine zSaload (m := 1) (k := 0) vr_178_0 rfl rfl rfl ?_
  refine zSp0 (pc' := 2) (st' := .int (0) :: _) vr_178_1 rfl rfl ?_
  refine zLput vr_178_2 rfl (fun p4193 k4193 e4193 t4193 g4193 => ?_)
  cases e4193
  have t0 := g4193
  have hS0 := hS.thr g4193
  refine zSiload (m := 1) (k := 1) vr_178_5 rfl rfl rfl (fun x4194 e4194 => ?_)
  cases e4194
  refine zSp0 (pc' := 7) (st' := .int (0) :: _) vr_178_6 rfl rfl ?_
  refine zSp0 (pc' := 8) (st' := .int (5) :: _) vr_178_7 rfl rfl ?_
  refine zScall vr_178_8 rfl rfl rfl (fun m4197 _ => C_in _ _ _ _ _ _) (fun v4197 h4197 u4197 q4197 => ?_) (fun E4197 h4197 u4197 q4197 => ?_)
  · obtain ⟨eh4197, z4197⟩ := q4197
    replace eh4197 := eh4197.symm
    subst eh4197
    cases z4197
    show zL zrx zi _ 178 11 [(0, _), (1, _), (2, _)] [_] _ _ _
    refine zSb1 (f := fun x => decide (x = 0)) (off := 12) (t := 23) vr_178_11 rfl rfl rfl (fun x4198 e4198 q4198 => ?_) (fun x4198 e4198 q4198 => ?_)
    · cases e4198
      refine zSaload (m := 1) (k := 0) vr_178_23 rfl rfl rfl ?_
      refine zSp0 (pc' := 25) (st' := .int (1) :: _) vr_178_24 rfl rfl ?_
      refine zScall vr_178_25 rfl rfl rfl (fun m4201 _ => C_no _ _ _ _ _) (fun v4201 h4201 u4201 q4201 => ?_) (fun E4201 h4201 u4201 q4201 => ?_)
      · obtain ⟨gn4201, z4201⟩ := q4201
        cases z4201
        show zL zrx zi _ 178 28 [(0, _), (1, _), (2, _)] [_] _ _ _
        refine zLiret vr_178_28 rfl (fun x4202 e4202 => ?_)
        cases e4202
        first
          | exact ⟨_, _, rfl, t0, Or.inr ⟨fun z => in6_n (of_decide_eq_true q4198) z.1, gn4201⟩⟩
          | exact ⟨_, _, rfl, t0, Or.inr ⟨fun z => in6_n (by simpa using q4178) z.2, gn4201⟩⟩
      · obtain ⟨-, z⟩ := q4201
        cases z
    · cases e4198
      refine zSiload (m := 1) (k := 2) vr_178_14 rfl rfl rfl (fun x4203 e4203 => ?_)
      cases e4203
      refine zSp0 (pc' := 16) (st' := .int (0) :: _) vr_178_15 rfl rfl ?_
      refine zSp0 (pc' := 17) (st' := .int (5) :: _) vr_178_16 rfl rfl ?_
      refine zScall vr_178_17 rfl rfl rfl (fun m4206 _ => C_in _ _ _ _ _ _) (fun v4206 h4206 u4206 q4206 => ?_) (fun E4206 h4206 u4206 q4206 => ?_)
      · obtain ⟨eh4206, z4206⟩ := q4206
        replace eh4206 := eh4206.symm
        subst eh4206
        cases z4206
        show zL zrx zi _ 178 20 [(0, _), (1, _), (2, _)] [_] _ _ _
        refine zSb1 (f := fun x => decide (¬ x = 0)) (off := 9) (t := 29) vr_178_20 rfl rfl rfl (fun x4207 e4207 q4207 => ?_) (fun x4207 e4207 q4207 => ?_)
        · cases e4207
          have ip := in6_y (x := p) (by simpa using q4198)
          have ia := in6_y (of_decide_eq_true q4207)
          have hp := iN_lt (m := 6) ip
          have ha := iN_lt (m := 6) ia
          refine zSaload (m := 1) (k := 0) vr_178_29 rfl rfl rfl ?_
          refine zLget vr_178_30 rfl (fun p4209 w4209 e4209 t4209 g4209 => ?_)
          cases e4209
          first | (rw [(st_213_5 hS0)] at g4209; cases g4209) | (rw [(st_mrow hS0 hp)] at g4209; cases g4209) | skip
          refine zSiload (m := 1) (k := 1) vr_178_33 rfl rfl rfl (fun x4210 e4210 => ?_)
          cases e4210
          refine zLaald vr_178_34 rfl (fun p4211 x4211 w4211 e4211 f4211 c4211 t4211 g4211 => ?_)
          cases e4211
          cases f4211
          first | (rw [(st_213_5 hS0)] at g4211; cases g4211) | (rw [(st_mrow hS0 hp)] at g4211; cases g4211) | skip
          refine zSiload (m := 1) (k := 2) vr_178_35 rfl rfl rfl (fun x4212 e4212 => ?_)
          cases e4212
          refine zLiald vr_178_36 rfl (fun p4213 x4213 w4213 e4213 f4213 c4213 t4213 g4213 => ?_)
          cases e4213
          cases f4213
          first | (rw [(st_213_5 hS0)] at g4213; cases g4213) | (rw [(st_mrow hS0 hp)] at g4213; cases g4213) | skip
          have w1 := g4213
          refine zLiret vr_178_37 rfl (fun x4214 e4214 => ?_)
          cases e4214
          exact ⟨_, _, rfl, t0, Or.inl ⟨⟨ip, ia⟩, rfl, w1⟩⟩
        · cases e4207
          refine zSaload (m := 1) (k := 0) vr_178_23 rfl rfl rfl ?_
          refine zSp0 (pc' := 25) (st' := .int (1) :: _) vr_178_24 rfl rfl ?_
          refine zScall vr_178_25 rfl rfl rfl (fun m4217 _ => C_no _ _ _ _ _) (fun v4217 h4217 u4217 q4217 => ?_) (fun E4217 h4217 u4217 q4217 => ?_)
          · obtain ⟨gn4217, z4217⟩ := q4217
            cases z4217
            show zL zrx zi _ 178 28 [(0, _), (1, _), (2, _)] [_] _ _ _
            refine zLiret vr_178_28 rfl (fun x4218 e4218 => ?_)
            cases e4218
            first
              | exact ⟨_, _, rfl, t0, Or.inr ⟨fun z => in6_n (of_decide_eq_true q4198) z.1, gn4217⟩⟩
              | exact ⟨_, _, rfl, t0, Or.inr ⟨fun z => in6_n (by simpa using q4207) z.2, gn4217⟩⟩
          · obtain ⟨-, z⟩ := q4217
            cases z
      · obtain ⟨-, z⟩ := q4206
        cases z
  · obtain ⟨-, z⟩ := q4197
    cases z
/-- the relation: the wordings are the same on both sides -/
def Rw (h : List zC) : Prop := ∀ i, i < 6 → ∀ j, j < 6 → gF h (19 + i) j = gF h (216 + i) j
/-- what does not touch the rows keeps it -/
theorem Rw.same {h h' : List zC} (hr : Rw h) (e : ∀ p k : Nat, (19 ≤ p ∧ p < 25) ∨ (216 ≤ p ∧ p < 222) → gF h' p k = gF h p k) : Rw h' := fun i hi j hj => by
  rw [e (19 + i) j (by omega), e (216 + i) j (by omega)]
  exact hr i hi j hj
theorem Rw.fr {Wr : List (Nat × Nat)} {ρ : List Nat} {h h' : List zC} (hr : Rw h) (hl : 239 ≤ h.length) (ro : Ro ρ) (hF : gFr Wr ρ h h') (hw : Wr.all (fun w => !(w.1 == 11) && !(w.1 == 43)) = true) : Rw h' := by
  have no : ∀ r k, r = 11 ∨ r = 43 → wIn Wr r k = false := fun r k hrk => by
    unfold wIn
    refine List.any_eq_false.mpr (fun w hm => ?_)
    have := List.all_eq_true.mp hw w hm
    simp only [Bool.and_eq_true, Bool.not_eq_true', beq_eq_false_iff_ne] at this
    have : ¬ w.1 = r := by omega
    simp [this]
  have r1 : ∀ i, i < 6 → rho0[19 + i]? = some 11 := by decide
  have r2 : ∀ i, i < 6 → rho0[216 + i]? = some 43 := by decide
  refine hr.same (fun p k hp => ?_)
  rcases hp with ⟨a, b⟩ | ⟨a, b⟩
  · exact gFr_F hF (ro _ _ (by have := r1 (p - 19) (by omega); rwa [show 19 + (p - 19) = p by omega] at this)) (no _ _ (Or.inl rfl)) (by omega)
  · exact gFr_F hF (ro _ _ (by have := r2 (p - 216) (by omega); rwa [show 216 + (p - 216) = p by omega] at this)) (no _ _ (Or.inr rfl)) (by omega)
theorem wSw_at {h h2 : List zC} {q a b : Nat} {r : Value} (w : wSw h h2 q a b r) : (∀ p k, gF h2 p k = if p = q ∧ k = b then gF h q a else if p = q ∧ k = a then gF h q b else gF h p k) ∧ gF h2 q a = some r := by
  obtain ⟨x, y, z, h1, e1, e2, p1, p2, e3, rfl⟩ := w
  refine ⟨fun p k => ?_, e3⟩
  rw [p2.2.1, p1.2.1, e1, e2]
/-- a swap on both sides -/
theorem sum_swap {h1 h2 h3 h5 : List zC} {u2 u5 : Nat} {p a b k r' : Int32} (hr : Rw h1) (hl : 239 ≤ h1.length) (V1 : Q_Lswap p a b h1 (.inl (some (.int k))) h2 u2) (E : ∀ p, p < 239 → ∀ k, gF h3 p k = gF h2 p k) (V2 : Q_mswap p a b h3 (.inl (some (.int r'))) h5 u5) :
    Rw h5 ∧ gF h5 213 0 = some (.int k) ∧ (k = 0 → gF h5 238 0 = some (.long r'.toInt64)) ∧ (k = 0 ∨ k = 1 ∨ k = 2) := by
  obtain ⟨k', e1, V1⟩ := V1
  cases e1
  obtain ⟨r, h4, e2, t0, V2⟩ := V2
  cases e2
  rcases V1 with ⟨rfl, ⟨ip, ia, ib⟩, rc, hc, w, po⟩ | ⟨rfl, ip, x⟩ | ⟨rfl, ip, iab, x⟩
  · rcases V2 with ⟨-, w'⟩ | ⟨n, -⟩ | ⟨-, n, -⟩
    · obtain ⟨c1, c2⟩ := wSw_at w
      obtain ⟨d1, d2⟩ := wSw_at w'
      have hp := iN_lt (m := 6) ip
      have ha := iN_lt (m := 6) ia
      have hb := iN_lt (m := 6) ib
      generalize p.toNatClampNeg = P at *
      generalize a.toNatClampNeg = A at *
      generalize b.toNatClampNeg = B at *
      have f4 : ∀ q k, q < 239 → ¬ q = 213 → ¬ q = 238 → gF h4 q k = gF hc q k := fun q k q1 q2 q3 => by
        rw [t0.2.1, if_neg (fun z => q2 z.1), E q q1, po.2.1, if_neg (fun z => q3 z.1)]
      have m4 : ∀ i j, i < 6 → gF h4 (216 + i) j = gF h1 (216 + i) j := fun i j hi => by
        rw [f4 _ _ (by omega) (by omega) (by omega), c1, if_neg (by omega), if_neg (by omega)]
      have key : Rw h5 := fun i hi j hj => by
        rw [d1 (19 + i) j, if_neg (by omega), if_neg (by omega), f4 _ _ (by omega) (by omega) (by omega), c1, d1 (216 + i) j, m4 P A hp, m4 P B hp, m4 i j hi, hr P hp A ha, hr P hp B hb, hr i hi j hj]
        have z : 19 + i = 19 + P ↔ 216 + i = 216 + P := by omega
        simp only [z]
      refine ⟨key, ?_, fun _ => ?_, Or.inl rfl⟩
      · rw [d1, if_neg (by omega), if_neg (by omega), t0.2.1, if_pos ⟨rfl, rfl⟩]
      · rw [d1, if_neg (by omega), if_neg (by omega), t0.2.1, if_neg (by omega), E _ (by omega), po.2.1, if_pos ⟨rfl, rfl⟩]
        have q : gF h5 (19 + P) A = some (.int rc) := by
          rw [d1, if_neg (by omega), if_neg (by omega), f4 _ _ (by omega) (by omega) (by omega)]
          exact c2
        rw [key P hp A ha, d2] at q
        cases q
        rfl
    · exact absurd ip n
    · exact absurd ⟨ia, ib⟩ n
  · rcases V2 with ⟨w', -⟩ | ⟨-, t1⟩ | ⟨w', -⟩
    · exact absurd w'.1 ip
    · refine ⟨hr.same (fun q k hq => ?_), ?_, fun z => (by cases z), Or.inr (Or.inl rfl)⟩
      · rw [t1.2.1, if_neg (by omega), t0.2.1, if_neg (by omega), E q (by omega), x.fld (by omega)]
      · rw [t1.2.1, if_pos ⟨rfl, rfl⟩]
    · exact absurd w' ip
  · rcases V2 with ⟨w', -⟩ | ⟨n, -⟩ | ⟨-, -, t1⟩
    · exact absurd w'.2 iab
    · exact absurd ip n
    · refine ⟨hr.same (fun q k hq => ?_), ?_, fun z => (by cases z), Or.inr (Or.inr rfl)⟩
      · rw [t1.2.1, if_neg (by omega), t0.2.1, if_neg (by omega), E q (by omega), x.fld (by omega)]
      · rw [t1.2.1, if_pos ⟨rfl, rfl⟩]
/-- the same is asked on both sides -/
theorem sum_means {h1 h2 h3 h5 : List zC} {u2 u5 : Nat} {p a k r' : Int32} (hr : Rw h1) (hl : 239 ≤ h1.length) (V1 : Q_Lmeans p a h1 (.inl (some (.int k))) h2 u2) (E : ∀ p, p < 239 → ∀ k, gF h3 p k = gF h2 p k) (V2 : Q_mmeans p a h3 (.inl (some (.int r'))) h5 u5) :
    Rw h5 ∧ gF h5 213 0 = some (.int k) ∧ (k = 0 → gF h5 238 0 = some (.long r'.toInt64)) ∧ (k = 0 ∨ k = 1 ∨ k = 2) := by
  obtain ⟨k', e1, V1⟩ := V1
  cases e1
  obtain ⟨r, h4, e2, t0, V2⟩ := V2
  cases e2
  rcases V1 with ⟨rfl, ⟨ip, ia⟩, rc, w, po⟩ | ⟨rfl, ip, x⟩
  · rcases V2 with ⟨-, e, w'⟩ | ⟨n, -⟩
    · subst e
      refine ⟨hr.same (fun q k hq => ?_), ?_, fun _ => ?_, Or.inl rfl⟩
      · rw [t0.2.1, if_neg (by omega), E q (by omega), po.2.1, if_neg (by omega)]
      · rw [t0.2.1, if_pos ⟨rfl, rfl⟩]
      · have hp := iN_lt (m := 6) ip
        have ha := iN_lt (m := 6) ia
        rw [t0.2.1, if_neg (by omega), E _ (by omega), po.2.1, if_pos ⟨rfl, rfl⟩]
        rw [t0.2.1, if_neg (by omega), E _ (by omega), po.2.1, if_neg (by omega), ← hr _ hp _ ha, w] at w'
        cases w'
        rfl
    · exact absurd ⟨ip, ia⟩ n
  · rcases V2 with ⟨w', -⟩ | ⟨-, t1⟩
    · exact absurd w' ip
    · refine ⟨hr.same (fun q k hq => ?_), ?_, fun z => (by cases z), Or.inr (Or.inl rfl)⟩
      · rw [t1.2.1, if_neg (by omega), t0.2.1, if_neg (by omega), E q (by omega), x.fld (by omega)]
      · rw [t1.2.1, if_pos ⟨rfl, rfl⟩]

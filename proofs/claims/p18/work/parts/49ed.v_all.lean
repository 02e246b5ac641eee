/-! ===== values: all, 1 ===== -/
theorem vr_142_0 : zrx 142 0 = some (.aload_n 0, 0, 0) := by decide +kernel
theorem vr_142_1 : zrx 142 1 = some (.getfield 148, 18, 16) := by decide +kernel
theorem vr_142_4 : zrx 142 4 = some (.aload_n 0, 0, 0) := by decide +kernel
theorem vr_142_5 : zrx 142 5 = some (.getfield 36, 18, 10) := by decide +kernel
theorem vr_142_8 : zrx 142 8 = some (.invokevirtual 151, 264, 10) := by decide +kernel
theorem vr_142_11 : zrx 142 11 = some (.if_icmp .ge 32, 0, 0) := by decide +kernel
theorem vr_142_14 : zrx 142 14 = some (.aload_n 0, 0, 0) := by decide +kernel
theorem vr_142_15 : zrx 142 15 = some (.getfield 36, 18, 10) := by decide +kernel
theorem vr_142_18 : zrx 142 18 = some (.aload_n 0, 0, 0) := by decide +kernel
theorem vr_142_19 : zrx 142 19 = some (.getfield 148, 18, 16) := by decide +kernel
theorem vr_142_22 : zrx 142 22 = some (.invokevirtual 156, 265, 10) := by decide +kernel
theorem vr_142_25 : zrx 142 25 = some (.bipush 32, 0, 0) := by decide +kernel
theorem vr_142_27 : zrx 142 27 = some (.if_icmp .ne 16, 0, 0) := by decide +kernel
theorem vr_142_30 : zrx 142 30 = some (.aload_n 0, 0, 0) := by decide +kernel
theorem vr_142_31 : zrx 142 31 = some (.dup, 0, 0) := by decide +kernel
theorem vr_142_32 : zrx 142 32 = some (.getfield 148, 18, 16) := by decide +kernel
theorem vr_142_35 : zrx 142 35 = some (.iconst 1, 0, 0) := by decide +kernel
theorem vr_142_36 : zrx 142 36 = some (.iadd, 0, 0) := by decide +kernel
theorem vr_142_37 : zrx 142 37 = some (.putfield 148, 18, 16) := by decide +kernel
theorem vr_142_40 : zrx 142 40 = some (.goto (-40), 0, 0) := by decide +kernel
theorem vr_142_43 : zrx 142 43 = some (.aload_n 0, 0, 0) := by decide +kernel
theorem vr_142_44 : zrx 142 44 = some (.getfield 148, 18, 16) := by decide +kernel
theorem vr_142_47 : zrx 142 47 = some (.aload_n 0, 0, 0) := by decide +kernel
theorem vr_142_48 : zrx 142 48 = some (.getfield 36, 18, 10) := by decide +kernel
theorem vr_142_51 : zrx 142 51 = some (.invokevirtual 151, 264, 10) := by decide +kernel
theorem vr_142_54 : zrx 142 54 = some (.if_icmp .ge 17, 0, 0) := by decide +kernel
theorem vr_142_57 : zrx 142 57 = some (.aload_n 0, 0, 0) := by decide +kernel
theorem vr_142_58 : zrx 142 58 = some (.getfield 36, 18, 10) := by decide +kernel
theorem vr_142_61 : zrx 142 61 = some (.aload_n 0, 0, 0) := by decide +kernel
theorem vr_142_62 : zrx 142 62 = some (.getfield 148, 18, 16) := by decide +kernel
theorem vr_142_65 : zrx 142 65 = some (.invokevirtual 156, 265, 10) := by decide +kernel
theorem vr_142_68 : zrx 142 68 = some (.goto 5, 0, 0) := by decide +kernel
theorem vr_142_71 : zrx 142 71 = some (.bipush 10, 0, 0) := by decide +kernel
theorem vr_142_73 : zrx 142 73 = some (.ireturn, 0, 0) := by decide +kernel
theorem vr_143_0 : zrx 143 0 = some (.aload_n 0, 0, 0) := by decide +kernel
theorem vr_143_1 : zrx 143 1 = some (.invokevirtual 160, 142, 190) := by decide +kernel
theorem vr_143_4 : zrx 143 4 = some (.iload_n 1, 0, 0) := by decide +kernel
theorem vr_143_5 : zrx 143 5 = some (.if_icmp .eq 5, 0, 0) := by decide +kernel
theorem vr_143_8 : zrx 143 8 = some (.iconst 0, 0, 0) := by decide +kernel
theorem vr_143_9 : zrx 143 9 = some (.ireturn, 0, 0) := by decide +kernel
theorem vr_143_10 : zrx 143 10 = some (.aload_n 0, 0, 0) := by decide +kernel
theorem vr_143_11 : zrx 143 11 = some (.dup, 0, 0) := by decide +kernel
theorem vr_143_12 : zrx 143 12 = some (.getfield 148, 18, 16) := by decide +kernel
theorem vr_143_15 : zrx 143 15 = some (.iconst 1, 0, 0) := by decide +kernel
theorem vr_143_16 : zrx 143 16 = some (.iadd, 0, 0) := by decide +kernel
theorem vr_143_17 : zrx 143 17 = some (.putfield 148, 18, 16) := by decide +kernel
theorem vr_143_20 : zrx 143 20 = some (.iconst 1, 0, 0) := by decide +kernel
theorem vr_143_21 : zrx 143 21 = some (.ireturn, 0, 0) := by decide +kernel
theorem vr_144_0 : zrx 144 0 = some (.iload_n 0, 0, 0) := by decide +kernel
theorem vr_144_1 : zrx 144 1 = some (.bipush 48, 0, 0) := by decide +kernel
theorem vr_144_3 : zrx 144 3 = some (.if_icmp .lt 13, 0, 0) := by decide +kernel
theorem vr_144_6 : zrx 144 6 = some (.iload_n 0, 0, 0) := by decide +kernel
theorem vr_144_7 : zrx 144 7 = some (.bipush 57, 0, 0) := by decide +kernel
theorem vr_144_9 : zrx 144 9 = some (.if_icmp .gt 7, 0, 0) := by decide +kernel
theorem vr_144_12 : zrx 144 12 = some (.iconst 1, 0, 0) := by decide +kernel
theorem vr_144_13 : zrx 144 13 = some (.goto 4, 0, 0) := by decide +kernel
theorem vr_144_16 : zrx 144 16 = some (.iconst 0, 0, 0) := by decide +kernel
theorem vr_144_17 : zrx 144 17 = some (.ireturn, 0, 0) := by decide +kernel
theorem vr_145_0 : zrx 145 0 = some (.aload_n 0, 0, 0) := by decide +kernel
theorem vr_145_1 : zrx 145 1 = some (.invokevirtual 160, 142, 190) := by decide +kernel
theorem vr_145_4 : zrx 145 4 = some (.istore_n 2, 0, 0) := by decide +kernel
theorem vr_145_5 : zrx 145 5 = some (.aload_n 0, 0, 0) := by decide +kernel
theorem vr_145_6 : zrx 145 6 = some (.dup, 0, 0) := by decide +kernel
theorem vr_145_7 : zrx 145 7 = some (.getfield 164, 18, 17) := by decide +kernel
theorem vr_145_10 : zrx 145 10 = some (.iload_n 2, 0, 0) := by decide +kernel
theorem vr_145_11 : zrx 145 11 = some (.invokestatic 168, 144, 0) := by decide +kernel
theorem vr_145_14 : zrx 145 14 = some (.ifCond .eq 11, 0, 0) := by decide +kernel
theorem vr_145_17 : zrx 145 17 = some (.iload_n 2, 0, 0) := by decide +kernel
theorem vr_145_18 : zrx 145 18 = some (.bipush 48, 0, 0) := by decide +kernel
theorem vr_145_20 : zrx 145 20 = some (.isub, 0, 0) := by decide +kernel
theorem vr_145_21 : zrx 145 21 = some (.iload_n 1, 0, 0) := by decide +kernel
theorem vr_145_22 : zrx 145 22 = some (.if_icmp .lt 7, 0, 0) := by decide +kernel
theorem vr_145_25 : zrx 145 25 = some (.iconst 1, 0, 0) := by decide +kernel
theorem vr_145_26 : zrx 145 26 = some (.goto 4, 0, 0) := by decide +kernel
theorem vr_145_29 : zrx 145 29 = some (.iconst 0, 0, 0) := by decide +kernel
theorem vr_145_30 : zrx 145 30 = some (.ior, 0, 0) := by decide +kernel
theorem vr_145_31 : zrx 145 31 = some (.putfield 164, 18, 17) := by decide +kernel
theorem vr_145_34 : zrx 145 34 = some (.aload_n 0, 0, 0) := by decide +kernel
theorem vr_145_35 : zrx 145 35 = some (.dup, 0, 0) := by decide +kernel
theorem vr_145_36 : zrx 145 36 = some (.getfield 148, 18, 16) := by decide +kernel
theorem vr_145_39 : zrx 145 39 = some (.iconst 1, 0, 0) := by decide +kernel
theorem vr_145_40 : zrx 145 40 = some (.iadd, 0, 0) := by decide +kernel
theorem vr_145_41 : zrx 145 41 = some (.putfield 148, 18, 16) := by decide +kernel
theorem vr_145_44 : zrx 145 44 = some (.aload_n 0, 0, 0) := by decide +kernel
theorem vr_145_45 : zrx 145 45 = some (.getfield 164, 18, 17) := by decide +kernel
theorem vr_145_48 : zrx 145 48 = some (.ifCond .eq 7, 0, 0) := by decide +kernel
theorem vr_145_51 : zrx 145 51 = some (.iconst 0, 0, 0) := by decide +kernel
theorem vr_145_52 : zrx 145 52 = some (.goto 7, 0, 0) := by decide +kernel
theorem vr_145_55 : zrx 145 55 = some (.iload_n 2, 0, 0) := by decide +kernel
theorem vr_145_56 : zrx 145 56 = some (.bipush 48, 0, 0) := by decide +kernel
theorem vr_145_58 : zrx 145 58 = some (.isub, 0, 0) := by decide +kernel
theorem vr_145_59 : zrx 145 59 = some (.ireturn, 0, 0) := by decide +kernel
theorem vr_146_0 : zrx 146 0 = some (.iconst 0, 0, 0) := by decide +kernel
theorem vr_146_1 : zrx 146 1 = some (.istore_n 1, 0, 0) := by decide +kernel
theorem vr_146_2 : zrx 146 2 = some (.iconst 0, 0, 0) := by decide +kernel
theorem vr_146_3 : zrx 146 3 = some (.istore_n 2, 0, 0) := by decide +kernel
theorem vr_146_4 : zrx 146 4 = some (.aload_n 0, 0, 0) := by decide +kernel
theorem vr_146_5 : zrx 146 5 = some (.invokevirtual 160, 142, 190) := by decide +kernel
theorem vr_146_8 : zrx 146 8 = some (.istore_n 3, 0, 0) := by decide +kernel
theorem vr_146_9 : zrx 146 9 = some (.aload_n 0, 0, 0) := by decide +kernel
theorem vr_146_10 : zrx 146 10 = some (.dup, 0, 0) := by decide +kernel
theorem vr_146_11 : zrx 146 11 = some (.getfield 164, 18, 17) := by decide +kernel
theorem vr_146_14 : zrx 146 14 = some (.iload_n 3, 0, 0) := by decide +kernel
theorem vr_146_15 : zrx 146 15 = some (.invokestatic 168, 144, 0) := by decide +kernel
theorem vr_146_18 : zrx 146 18 = some (.ifCond .ne 7, 0, 0) := by decide +kernel
theorem vr_146_21 : zrx 146 21 = some (.iconst 1, 0, 0) := by decide +kernel
theorem vr_146_22 : zrx 146 22 = some (.goto 4, 0, 0) := by decide +kernel
theorem vr_146_25 : zrx 146 25 = some (.iconst 0, 0, 0) := by decide +kernel
theorem vr_146_26 : zrx 146 26 = some (.ior, 0, 0) := by decide +kernel
theorem vr_146_27 : zrx 146 27 = some (.putfield 164, 18, 17) := by decide +kernel
theorem vr_146_30 : zrx 146 30 = some (.aload_n 0, 0, 0) := by decide +kernel
theorem vr_146_31 : zrx 146 31 = some (.getfield 148, 18, 16) := by decide +kernel
theorem vr_146_34 : zrx 146 34 = some (.aload_n 0, 0, 0) := by decide +kernel
theorem vr_146_35 : zrx 146 35 = some (.getfield 36, 18, 10) := by decide +kernel
theorem vr_146_38 : zrx 146 38 = some (.invokevirtual 151, 264, 10) := by decide +kernel
theorem vr_146_41 : zrx 146 41 = some (.if_icmp .ge 61, 0, 0) := by decide +kernel
theorem vr_146_44 : zrx 146 44 = some (.aload_n 0, 0, 0) := by decide +kernel
theorem vr_146_45 : zrx 146 45 = some (.getfield 36, 18, 10) := by decide +kernel
theorem vr_146_48 : zrx 146 48 = some (.aload_n 0, 0, 0) := by decide +kernel
theorem vr_146_49 : zrx 146 49 = some (.getfield 148, 18, 16) := by decide +kernel
theorem vr_146_52 : zrx 146 52 = some (.invokevirtual 156, 265, 10) := by decide +kernel
theorem vr_146_55 : zrx 146 55 = some (.invokestatic 168, 144, 0) := by decide +kernel
theorem vr_146_58 : zrx 146 58 = some (.ifCond .eq 44, 0, 0) := by decide +kernel
theorem vr_146_61 : zrx 146 61 = some (.iload_n 2, 0, 0) := by decide +kernel
theorem vr_146_62 : zrx 146 62 = some (.iconst 4, 0, 0) := by decide +kernel
theorem vr_146_63 : zrx 146 63 = some (.if_icmp .ge 39, 0, 0) := by decide +kernel
theorem vr_146_66 : zrx 146 66 = some (.bipush 10, 0, 0) := by decide +kernel
theorem vr_146_68 : zrx 146 68 = some (.iload_n 1, 0, 0) := by decide +kernel
theorem vr_146_69 : zrx 146 69 = some (.imul, 0, 0) := by decide +kernel
theorem vr_146_70 : zrx 146 70 = some (.aload_n 0, 0, 0) := by decide +kernel
theorem vr_146_71 : zrx 146 71 = some (.getfield 36, 18, 10) := by decide +kernel
theorem vr_146_74 : zrx 146 74 = some (.aload_n 0, 0, 0) := by decide +kernel
theorem vr_146_75 : zrx 146 75 = some (.getfield 148, 18, 16) := by decide +kernel
theorem vr_146_78 : zrx 146 78 = some (.invokevirtual 156, 265, 10) := by decide +kernel
theorem vr_146_81 : zrx 146 81 = some (.iadd, 0, 0) := by decide +kernel
theorem vr_146_82 : zrx 146 82 = some (.bipush 48, 0, 0) := by decide +kernel
theorem vr_146_84 : zrx 146 84 = some (.isub, 0, 0) := by decide +kernel
theorem vr_146_85 : zrx 146 85 = some (.istore_n 1, 0, 0) := by decide +kernel
theorem vr_146_86 : zrx 146 86 = some (.aload_n 0, 0, 0) := by decide +kernel
theorem vr_146_87 : zrx 146 87 = some (.dup, 0, 0) := by decide +kernel
theorem vr_146_88 : zrx 146 88 = some (.getfield 148, 18, 16) := by decide +kernel
theorem vr_146_91 : zrx 146 91 = some (.iconst 1, 0, 0) := by decide +kernel
theorem vr_146_92 : zrx 146 92 = some (.iadd, 0, 0) := by decide +kernel
theorem vr_146_93 : zrx 146 93 = some (.putfield 148, 18, 16) := by decide +kernel
theorem vr_146_96 : zrx 146 96 = some (.iinc 2 1, 0, 0) := by decide +kernel
theorem vr_146_99 : zrx 146 99 = some (.goto (-69), 0, 0) := by decide +kernel
theorem vr_146_102 : zrx 146 102 = some (.aload_n 0, 0, 0) := by decide +kernel
theorem vr_146_103 : zrx 146 103 = some (.dup, 0, 0) := by decide +kernel
theorem vr_146_104 : zrx 146 104 = some (.getfield 164, 18, 17) := by decide +kernel
theorem vr_146_107 : zrx 146 107 = some (.iload_n 2, 0, 0) := by decide +kernel
theorem vr_146_108 : zrx 146 108 = some (.iconst 3, 0, 0) := by decide +kernel
theorem vr_146_109 : zrx 146 109 = some (.if_icmp .le 7, 0, 0) := by decide +kernel
theorem vr_146_112 : zrx 146 112 = some (.iconst 1, 0, 0) := by decide +kernel
theorem vr_146_113 : zrx 146 113 = some (.goto 4, 0, 0) := by decide +kernel
theorem vr_146_116 : zrx 146 116 = some (.iconst 0, 0, 0) := by decide +kernel
theorem vr_146_117 : zrx 146 117 = some (.ior, 0, 0) := by decide +kernel
theorem vr_146_118 : zrx 146 118 = some (.putfield 164, 18, 17) := by decide +kernel
theorem vr_146_121 : zrx 146 121 = some (.iload_n 1, 0, 0) := by decide +kernel
theorem vr_146_122 : zrx 146 122 = some (.ireturn, 0, 0) := by decide +kernel
theorem vr_147_0 : zrx 147 0 = some (.aload_n 0, 0, 0) := by decide +kernel
theorem vr_147_1 : zrx 147 1 = some (.invokevirtual 172, 146, 190) := by decide +kernel
theorem vr_147_4 : zrx 147 4 = some (.istore_n 2, 0, 0) := by decide +kernel
theorem vr_147_5 : zrx 147 5 = some (.aload_n 0, 0, 0) := by decide +kernel
theorem vr_147_6 : zrx 147 6 = some (.dup, 0, 0) := by decide +kernel
theorem vr_147_7 : zrx 147 7 = some (.getfield 164, 18, 17) := by decide +kernel
theorem vr_147_10 : zrx 147 10 = some (.iload_n 2, 0, 0) := by decide +kernel
theorem vr_147_11 : zrx 147 11 = some (.iload_n 1, 0, 0) := by decide +kernel
theorem vr_147_12 : zrx 147 12 = some (.if_icmp .lt 7, 0, 0) := by decide +kernel
theorem vr_147_15 : zrx 147 15 = some (.iconst 1, 0, 0) := by decide +kernel
theorem vr_147_16 : zrx 147 16 = some (.goto 4, 0, 0) := by decide +kernel
theorem vr_147_19 : zrx 147 19 = some (.iconst 0, 0, 0) := by decide +kernel
theorem vr_147_20 : zrx 147 20 = some (.ior, 0, 0) := by decide +kernel
theorem vr_147_21 : zrx 147 21 = some (.putfield 164, 18, 17) := by decide +kernel
theorem vr_147_24 : zrx 147 24 = some (.iload_n 2, 0, 0) := by decide +kernel
theorem vr_147_25 : zrx 147 25 = some (.ireturn, 0, 0) := by decide +kernel
theorem vr_149_0 : zrx 149 0 = some (.aload_n 0, 0, 0) := by decide +kernel
theorem vr_149_1 : zrx 149 1 = some (.bipush 43, 0, 0) := by decide +kernel
theorem vr_149_3 : zrx 149 3 = some (.invokevirtual 176, 143, 190) := by decide +kernel
theorem vr_149_6 : zrx 149 6 = some (.ifCond .eq 23, 0, 0) := by decide +kernel
theorem vr_149_9 : zrx 149 9 = some (.aload_n 1, 0, 0) := by decide +kernel
theorem vr_149_10 : zrx 149 10 = some (.dup, 0, 0) := by decide +kernel
theorem vr_149_11 : zrx 149 11 = some (.getfield 194, 15, 2) := by decide +kernel
theorem vr_149_14 : zrx 149 14 = some (.iconst 1, 0, 0) := by decide +kernel
theorem vr_149_15 : zrx 149 15 = some (.aload_n 0, 0, 0) := by decide +kernel
theorem vr_149_16 : zrx 149 16 = some (.bipush 6, 0, 0) := by decide +kernel
theorem vr_149_18 : zrx 149 18 = some (.invokevirtual 179, 145, 190) := by decide +kernel
theorem vr_149_21 : zrx 149 21 = some (.ishl, 0, 0) := by decide +kernel
theorem vr_149_22 : zrx 149 22 = some (.ior, 0, 0) := by decide +kernel
theorem vr_149_23 : zrx 149 23 = some (.putfield 194, 15, 2) := by decide +kernel
theorem vr_149_26 : zrx 149 26 = some (.goto 129, 0, 0) := by decide +kernel
theorem vr_149_29 : zrx 149 29 = some (.aload_n 0, 0, 0) := by decide +kernel
theorem vr_149_30 : zrx 149 30 = some (.bipush 45, 0, 0) := by decide +kernel
theorem vr_149_32 : zrx 149 32 = some (.invokevirtual 176, 143, 190) := by decide +kernel
theorem vr_149_35 : zrx 149 35 = some (.ifCond .eq 23, 0, 0) := by decide +kernel
theorem vr_149_38 : zrx 149 38 = some (.aload_n 1, 0, 0) := by decide +kernel
theorem vr_149_39 : zrx 149 39 = some (.dup, 0, 0) := by decide +kernel
theorem vr_149_40 : zrx 149 40 = some (.getfield 197, 15, 3) := by decide +kernel
theorem vr_149_43 : zrx 149 43 = some (.iconst 1, 0, 0) := by decide +kernel
theorem vr_149_44 : zrx 149 44 = some (.aload_n 0, 0, 0) := by decide +kernel
theorem vr_149_45 : zrx 149 45 = some (.bipush 6, 0, 0) := by decide +kernel
theorem vr_149_47 : zrx 149 47 = some (.invokevirtual 179, 145, 190) := by decide +kernel
theorem vr_149_50 : zrx 149 50 = some (.ishl, 0, 0) := by decide +kernel
theorem vr_149_51 : zrx 149 51 = some (.ior, 0, 0) := by decide +kernel
theorem vr_149_52 : zrx 149 52 = some (.putfield 197, 15, 3) := by decide +kernel
theorem vr_149_55 : zrx 149 55 = some (.goto 100, 0, 0) := by decide +kernel
theorem vr_149_58 : zrx 149 58 = some (.aload_n 0, 0, 0) := by decide +kernel
theorem vr_149_59 : zrx 149 59 = some (.bipush 60, 0, 0) := by decide +kernel
theorem vr_149_61 : zrx 149 61 = some (.invokevirtual 176, 143, 190) := by decide +kernel
theorem vr_149_64 : zrx 149 64 = some (.ifCond .eq 7, 0, 0) := by decide +kernel
theorem vr_149_67 : zrx 149 67 = some (.iconst 1, 0, 0) := by decide +kernel
theorem vr_149_68 : zrx 149 68 = some (.goto 17, 0, 0) := by decide +kernel
theorem vr_149_71 : zrx 149 71 = some (.aload_n 0, 0, 0) := by decide +kernel
theorem vr_149_72 : zrx 149 72 = some (.bipush 62, 0, 0) := by decide +kernel
theorem vr_149_74 : zrx 149 74 = some (.invokevirtual 176, 143, 190) := by decide +kernel
theorem vr_149_77 : zrx 149 77 = some (.ifCond .eq 7, 0, 0) := by decide +kernel
theorem vr_149_80 : zrx 149 80 = some (.iconst 2, 0, 0) := by decide +kernel
theorem vr_149_81 : zrx 149 81 = some (.goto 4, 0, 0) := by decide +kernel
theorem vr_149_84 : zrx 149 84 = some (.iconst 0, 0, 0) := by decide +kernel
theorem vr_149_85 : zrx 149 85 = some (.istore_n 2, 0, 0) := by decide +kernel
theorem vr_149_86 : zrx 149 86 = some (.aload_n 0, 0, 0) := by decide +kernel
theorem vr_149_87 : zrx 149 87 = some (.dup, 0, 0) := by decide +kernel
theorem vr_149_88 : zrx 149 88 = some (.getfield 164, 18, 17) := by decide +kernel
theorem vr_149_91 : zrx 149 91 = some (.iload_n 2, 0, 0) := by decide +kernel
theorem vr_149_92 : zrx 149 92 = some (.ifCond .eq 11, 0, 0) := by decide +kernel
theorem vr_149_95 : zrx 149 95 = some (.aload_n 1, 0, 0) := by decide +kernel
theorem vr_149_96 : zrx 149 96 = some (.getfield 200, 15, 6) := by decide +kernel
theorem vr_149_99 : zrx 149 99 = some (.iconst 2, 0, 0) := by decide +kernel
theorem vr_149_100 : zrx 149 100 = some (.if_icmp .ne 7, 0, 0) := by decide +kernel
theorem vr_149_103 : zrx 149 103 = some (.iconst 1, 0, 0) := by decide +kernel
theorem vr_149_104 : zrx 149 104 = some (.goto 4, 0, 0) := by decide +kernel
theorem vr_149_107 : zrx 149 107 = some (.iconst 0, 0, 0) := by decide +kernel
theorem vr_149_108 : zrx 149 108 = some (.ior, 0, 0) := by decide +kernel
theorem vr_149_109 : zrx 149 109 = some (.putfield 164, 18, 17) := by decide +kernel
theorem vr_149_112 : zrx 149 112 = some (.aload_n 0, 0, 0) := by decide +kernel
theorem vr_149_113 : zrx 149 113 = some (.invokevirtual 172, 146, 190) := by decide +kernel
theorem vr_149_116 : zrx 149 116 = some (.istore_n 3, 0, 0) := by decide +kernel
theorem vr_149_117 : zrx 149 117 = some (.aload_n 0, 0, 0) := by decide +kernel
theorem vr_149_118 : zrx 149 118 = some (.getfield 164, 18, 17) := by decide +kernel
theorem vr_149_121 : zrx 149 121 = some (.ifCond .eq 4, 0, 0) := by decide +kernel
theorem vr_149_124 : zrx 149 124 = some (.return_, 0, 0) := by decide +kernel
theorem vr_149_125 : zrx 149 125 = some (.aload_n 1, 0, 0) := by decide +kernel
theorem vr_149_126 : zrx 149 126 = some (.getfield 203, 15, 4) := by decide +kernel
theorem vr_149_129 : zrx 149 129 = some (.aload_n 1, 0, 0) := by decide +kernel
theorem vr_149_130 : zrx 149 130 = some (.getfield 200, 15, 6) := by decide +kernel
theorem vr_149_133 : zrx 149 133 = some (.iload_n 2, 0, 0) := by decide +kernel
theorem vr_149_134 : zrx 149 134 = some (.iastore, 0, 0) := by decide +kernel
theorem vr_149_135 : zrx 149 135 = some (.aload_n 1, 0, 0) := by decide +kernel
theorem vr_149_136 : zrx 149 136 = some (.getfield 206, 15, 5) := by decide +kernel
theorem vr_149_139 : zrx 149 139 = some (.aload_n 1, 0, 0) := by decide +kernel
theorem vr_149_140 : zrx 149 140 = some (.getfield 200, 15, 6) := by decide +kernel
theorem vr_149_143 : zrx 149 143 = some (.iload_n 3, 0, 0) := by decide +kernel
theorem vr_149_144 : zrx 149 144 = some (.iastore, 0, 0) := by decide +kernel
theorem vr_149_145 : zrx 149 145 = some (.aload_n 1, 0, 0) := by decide +kernel
theorem vr_149_146 : zrx 149 146 = some (.dup, 0, 0) := by decide +kernel
theorem vr_149_147 : zrx 149 147 = some (.getfield 200, 15, 6) := by decide +kernel
theorem vr_149_150 : zrx 149 150 = some (.iconst 1, 0, 0) := by decide +kernel
theorem vr_149_151 : zrx 149 151 = some (.iadd, 0, 0) := by decide +kernel
theorem vr_149_152 : zrx 149 152 = some (.putfield 200, 15, 6) := by decide +kernel
theorem vr_149_155 : zrx 149 155 = some (.return_, 0, 0) := by decide +kernel
theorem vr_264_0 : zrx 264 0 = some (.aload_n 0, 0, 0) := by decide +kernel
theorem vr_264_1 : zrx 264 1 = some (.getfield 9, 0, 0) := by decide +kernel
theorem vr_264_4 : zrx 264 4 = some (.arraylength, 0, 0) := by decide +kernel
theorem vr_264_5 : zrx 264 5 = some (.aload_n 0, 0, 0) := by decide +kernel
theorem vr_264_6 : zrx 264 6 = some (.invokevirtual 335, 268, 10) := by decide +kernel
theorem vr_264_9 : zrx 264 9 = some (.ishr, 0, 0) := by decide +kernel
theorem vr_264_10 : zrx 264 10 = some (.ireturn, 0, 0) := by decide +kernel
theorem vr_265_0 : zrx 265 0 = some (.aload_n 0, 0, 0) := by decide +kernel
theorem vr_265_1 : zrx 265 1 = some (.invokevirtual 492, 269, 10) := by decide +kernel
theorem vr_265_4 : zrx 265 4 = some (.ifCond .eq 12, 0, 0) := by decide +kernel
theorem vr_265_7 : zrx 265 7 = some (.aload_n 0, 0, 0) := by decide +kernel
theorem vr_265_8 : zrx 265 8 = some (.getfield 9, 0, 0) := by decide +kernel
theorem vr_265_11 : zrx 265 11 = some (.iload_n 1, 0, 0) := by decide +kernel
theorem vr_265_12 : zrx 265 12 = some (.invokestatic 495, 279, 0) := by decide +kernel
theorem vr_265_15 : zrx 265 15 = some (.ireturn, 0, 0) := by decide +kernel
theorem vr_268_0 : zrx 268 0 = some (.getstatic 38, 1, 0) := by decide +kernel
theorem vr_268_3 : zrx 268 3 = some (.ifCond .eq 10, 0, 0) := by decide +kernel
theorem vr_268_6 : zrx 268 6 = some (.aload_n 0, 0, 0) := by decide +kernel
theorem vr_268_7 : zrx 268 7 = some (.getfield 15, 0, 1) := by decide +kernel
theorem vr_268_10 : zrx 268 10 = some (.goto 4, 0, 0) := by decide +kernel
theorem vr_268_13 : zrx 268 13 = some (.iconst 1, 0, 0) := by decide +kernel
theorem vr_268_14 : zrx 268 14 = some (.ireturn, 0, 0) := by decide +kernel
theorem vr_269_0 : zrx 269 0 = some (.getstatic 38, 1, 0) := by decide +kernel
theorem vr_269_3 : zrx 269 3 = some (.ifCond .eq 14, 0, 0) := by decide +kernel
theorem vr_269_6 : zrx 269 6 = some (.aload_n 0, 0, 0) := by decide +kernel
theorem vr_269_7 : zrx 269 7 = some (.getfield 15, 0, 1) := by decide +kernel
theorem vr_269_10 : zrx 269 10 = some (.ifCond .ne 7, 0, 0) := by decide +kernel
theorem vr_269_13 : zrx 269 13 = some (.iconst 1, 0, 0) := by decide +kernel
theorem vr_269_14 : zrx 269 14 = some (.goto 4, 0, 0) := by decide +kernel
theorem vr_269_17 : zrx 269 17 = some (.iconst 0, 0, 0) := by decide +kernel
theorem vr_269_18 : zrx 269 18 = some (.ireturn, 0, 0) := by decide +kernel
theorem vr_270_0 : zrx 270 0 = some (.iload_n 0, 0, 0) := by decide +kernel
theorem vr_270_1 : zrx 270 1 = some (.iload_n 1, 0, 0) := by decide +kernel
theorem vr_270_2 : zrx 270 2 = some (.getstatic 1053, 0, 5000) := by decide +kernel
theorem vr_270_5 : zrx 270 5 = some (.invokestatic 1059, 319, 0) := by decide +kernel
theorem vr_270_8 : zrx 270 8 = some (.pop, 0, 0) := by decide +kernel
theorem vr_270_9 : zrx 270 9 = some (.return_, 0, 0) := by decide +kernel
theorem vr_279_0 : zrx 279 0 = some (.iload_n 1, 0, 0) := by decide +kernel
theorem vr_279_1 : zrx 279 1 = some (.aload_n 0, 0, 0) := by decide +kernel
theorem vr_279_2 : zrx 279 2 = some (.arraylength, 0, 0) := by decide +kernel
theorem vr_279_3 : zrx 279 3 = some (.invokestatic 9, 270, 0) := by decide +kernel
theorem vr_279_6 : zrx 279 6 = some (.aload_n 0, 0, 0) := by decide +kernel
theorem vr_279_7 : zrx 279 7 = some (.iload_n 1, 0, 0) := by decide +kernel
theorem vr_279_8 : zrx 279 8 = some (.baload, 0, 0) := by decide +kernel
theorem vr_279_9 : zrx 279 9 = some (.sipush 255, 0, 0) := by decide +kernel
theorem vr_279_12 : zrx 279 12 = some (.iand, 0, 0) := by decide +kernel
theorem vr_279_13 : zrx 279 13 = some (.i2c, 0, 0) := by decide +kernel
theorem vr_279_14 : zrx 279 14 = some (.ireturn, 0, 0) := by decide +kernel
theorem C_chk3w (n : Nat) (x y : Int32) (w : Value) (h : List zC) (u : Nat) : zL zrx zi n 319 0 [(0, .int x), (1, .int y), (2, w)] [] h u (fun o h2 _ => h2 = h ∧ o = .inl (some (.int x))) := by
  refine zSiload (m := 1) (k := 0) vr_319_0 rfl rfl rfl (fun x831 e831 => ?_)
  cases e831
  refine zSb1 (f := fun x => decide (x < 0)) (off := 8) (t := 9) vr_319_1 rfl rfl rfl (fun x832 e832 q832 => ?_) (fun x832 e832 q832 => ?_)
  · cases e832
    have c832 := of_decide_eq_true q832
    refine zSaload (m := 1) (k := 2) vr_319_9 rfl rfl rfl ?_
    refine zSiload (m := 1) (k := 0) vr_319_10 rfl rfl rfl (fun x834 e834 => ?_)
    cases e834
    refine zSiload (m := 1) (k := 1) vr_319_11 rfl rfl rfl (fun x835 e835 => ?_)
    cases e835
    exact zLnone (by decide +kernel)
  · cases e832
    have c832 := ndc q832
    refine zSiload (m := 1) (k := 0) vr_319_4 rfl rfl rfl (fun x836 e836 => ?_)
    cases e836
    refine zSiload (m := 1) (k := 1) vr_319_5 rfl rfl rfl (fun x837 e837 => ?_)
    cases e837
    refine zSb2 (f := fun x y => decide (x < y)) (off := 10) (t := 16) vr_319_6 rfl rfl rfl (fun x838 y838 e838 f838 q838 => ?_) (fun x838 y838 e838 f838 q838 => ?_)
    · cases e838
      cases f838
      have c838 := of_decide_eq_true q838
      refine zSiload (m := 1) (k := 0) vr_319_16 rfl rfl rfl (fun x839 e839 => ?_)
      cases e839
      refine zLiret vr_319_17 rfl (fun x840 e840 => ?_)
      cases e840
      exact ⟨rfl, rfl⟩
    · cases e838
      cases f838
      have c838 := ndc q838
      refine zSaload (m := 1) (k := 2) vr_319_9 rfl rfl rfl ?_
      refine zSiload (m := 1) (k := 0) vr_319_10 rfl rfl rfl (fun x842 e842 => ?_)
      cases e842
      refine zSiload (m := 1) (k := 1) vr_319_11 rfl rfl rfl (fun x843 e843 => ?_)
      cases e843
      exact zLnone (by decide +kernel)
theorem C_jck (n : Nat) (x y : Int32) (h : List zC) (u : Nat) : zL zrx zi n 270 0 [(0, .int x), (1, .int y)] [] h u (fun o h2 _ => h2 = h ∧ o = .inl none) := by
  refine zSiload (m := 1) (k := 0) vr_270_0 rfl rfl rfl (fun x844 e844 => ?_)
  cases e844
  refine zSiload (m := 1) (k := 1) vr_270_1 rfl rfl rfl (fun x845 e845 => ?_)
  cases e845
  refine zLgst vr_270_2 rfl (fun w846 => ?_)
  refine zScall vr_270_5 rfl rfl rfl (fun m847 _ => C_chk3w _ _ _ _ _ _) (fun v847 h847 u847 q847 => ?_) (fun E847 h847 u847 q847 => ?_)
  · obtain ⟨eh847, z847⟩ := q847
    replace eh847 := eh847.symm
    subst eh847
    cases z847
    show zL zrx zi _ 270 8 [(0, _), (1, _)] [_] _ _ _
    refine zSpop vr_270_8 rfl ?_
    refine zSvoid vr_270_9 rfl ?_
    exact ⟨rfl, rfl⟩
  · obtain ⟨-, z⟩ := q847
    cases z
theorem C_ch1 (n : Nat) (b : Nat) (i : Value) (h : List zC) (u : Nat) : zL zrx zi n 279 0 [(0, .ref b), (1, i)] [] h u (fun o h2 _ => h2 = h ∧ ∃ x y : Int32, i = .int x ∧ ¬ x < 0 ∧ gF h b x.toNatClampNeg = some (.int y) ∧ o = .inl (some (.int ((y &&& 255).toUInt32 % 65536).toInt32))) := by
  refine zSiload (m := 1) (k := 1) vr_279_0 rfl rfl rfl (fun x850 e850 => ?_)
  cases e850
  refine zSaload (m := 1) (k := 0) vr_279_1 rfl rfl rfl ?_
  refine zLlen vr_279_2 rfl (fun p852 m852 e852 g852 => ?_)
  cases e852
  refine zScall vr_279_3 rfl rfl rfl (fun m853 _ => C_jck _ _ _ _ _) (fun v853 h853 u853 q853 => ?_) (fun E853 h853 u853 q853 => ?_)
  · obtain ⟨eh853, z853⟩ := q853
    replace eh853 := eh853.symm
    subst eh853
    cases z853
    show zL zrx zi _ 279 6 [(0, _), (1, _)] [] _ _ _
    refine zSaload (m := 1) (k := 0) vr_279_6 rfl rfl rfl ?_
    refine zSiload (m := 1) (k := 1) vr_279_7 rfl rfl rfl (fun x855 e855 => ?_)
    cases e855
    refine zLbald vr_279_8 rfl (fun p856 x856 w856 e856 f856 c856 t856 g856 => ?_)
    cases e856
    cases f856
    refine zSp0 (pc' := 12) (st' := .int (255) :: _) vr_279_9 rfl rfl ?_
    refine zS2 (f := fun x y => .int (x &&& y)) vr_279_12 rfl rfl (fun x858 y858 e858 f858 => ?_)
    cases e858
    cases f858
    refine zS1 (f := fun x => .int (x.toUInt32 % 65536).toInt32) vr_279_13 rfl rfl (fun x859 e859 => ?_)
    cases e859
    refine zLiret vr_279_14 rfl (fun x860 e860 => ?_)
    cases e860
    exact ⟨rfl, _, _, rfl, c856, g856, rfl⟩
  · obtain ⟨-, z⟩ := q853
    cases z
theorem C_isL (n : Nat) (s : Nat) (h : List zC) (u : Nat) (h1 : gF h s 1 = some (.int 0)) : zL zrx zi n 269 0 [(0, .ref s)] [] h u (fun o h2 _ => h2 = h ∧ o = .inl (some (.int 1))) := by
  refine zScstV (v := .int (Int32.ofNat 1)) vr_269_0 rfl rfl ?_
  refine zSb1 (f := fun x => decide (x = 0)) (off := 14) (t := 17) vr_269_3 rfl rfl rfl (fun x862 e862 q862 => ?_) (fun x862 e862 q862 => ?_)
  · cases e862
    have c862 := of_decide_eq_true q862
    refine zSp0 (pc' := 18) (st' := .int (0) :: _) vr_269_17 rfl rfl ?_
    refine zLiret vr_269_18 rfl (fun x864 e864 => ?_)
    cases e864
    first
      | exact absurd c862 (by decide)
      | exact ⟨rfl, rfl⟩
      | exact absurd rfl c842
      | exact absurd c842 (by decide)
  · cases e862
    have c862 := ndc q862
    refine zSaload (m := 1) (k := 0) vr_269_6 rfl rfl rfl ?_
    refine zLget vr_269_7 rfl (fun p866 w866 e866 t866 g866 => ?_)
    cases e866
    first | (rw [h1] at g866; cases g866) | skip
    refine zSb1 (f := fun x => decide (¬ x = 0)) (off := 7) (t := 17) vr_269_10 rfl rfl rfl (fun x867 e867 q867 => ?_) (fun x867 e867 q867 => ?_)
    · cases e867
      have c867 := of_decide_eq_true q867
      refine zSp0 (pc' := 18) (st' := .int (0) :: _) vr_269_17 rfl rfl ?_
      refine zLiret vr_269_18 rfl (fun x869 e869 => ?_)
      cases e869
      first
        | exact absurd c862 (by decide)
        | exact ⟨rfl, rfl⟩
        | exact absurd rfl c867
        | exact absurd c867 (by decide)
    · cases e867
      have c867 := ndc q867
      refine zSp0 (pc' := 14) (st' := .int (1) :: _) vr_269_13 rfl rfl ?_
      refine zSgo (t := 18) vr_269_14 rfl rfl ?_
      refine zLiret vr_269_18 rfl (fun x872 e872 => ?_)
      cases e872
      first
        | exact absurd c862 (by decide)
        | exact ⟨rfl, rfl⟩
        | exact absurd rfl c867
        | exact absurd c867 (by decide)
theorem C_coder (n : Nat) (s : Nat) (h : List zC) (u : Nat) (h1 : gF h s 1 = some (.int 0)) : zL zrx zi n 268 0 [(0, .ref s)] [] h u (fun o h2 _ => h2 = h ∧ o = .inl (some (.int 0))) := by
  refine zScstV (v := .int (Int32.ofNat 1)) vr_268_0 rfl rfl ?_
  refine zSb1 (f := fun x => decide (x = 0)) (off := 10) (t := 13) vr_268_3 rfl rfl rfl (fun x874 e874 q874 => ?_) (fun x874 e874 q874 => ?_)
  · cases e874
    have c874 := of_decide_eq_true q874
    refine zSp0 (pc' := 14) (st' := .int (1) :: _) vr_268_13 rfl rfl ?_
    refine zLiret vr_268_14 rfl (fun x876 e876 => ?_)
    cases e876
    first
      | exact ⟨rfl, rfl⟩
      | exact absurd c874 (by decide)
  · cases e874
    have c874 := ndc q874
    refine zSaload (m := 1) (k := 0) vr_268_6 rfl rfl rfl ?_
    refine zLget vr_268_7 rfl (fun p878 w878 e878 t878 g878 => ?_)
    cases e878
    first | (rw [h1] at g878; cases g878) | skip
    refine zSgo (t := 14) vr_268_10 rfl rfl ?_
    refine zLiret vr_268_14 rfl (fun x880 e880 => ?_)
    cases e880
    first
      | exact ⟨rfl, rfl⟩
      | exact absurd c874 (by decide)
theorem C_charAt (n : Nat) (s : Nat) (i : Value) (h : List zC) (u : Nat) {T : Nat → Int32} {L b : Nat} (d : SB T L s b h) : zL zrx zi n 265 0 [(0, .ref s), (1, i)] [] h u (fun o h2 _ => h2 = h ∧ ∃ x : Int32, i = .int x ∧ ¬ x < 0 ∧ x.toNatClampNeg < L ∧ o = .inl (some (.int (T x.toNatClampNeg)))) := by
  refine zSaload (m := 1) (k := 0) vr_265_0 rfl rfl rfl ?_
  refine zScall vr_265_1 rfl rfl rfl (fun m882 _ => C_isL _ _ _ _ d.2.1) (fun v882 h882 u882 q882 => ?_) (fun E882 h882 u882 q882 => ?_)
  · obtain ⟨eh882, z882⟩ := q882
    replace eh882 := eh882.symm
    subst eh882
    cases z882
    show zL zrx zi _ 265 4 [(0, _), (1, _)] [_] _ _ _
    refine zSb1 (f := fun x => decide (x = 0)) (off := 12) (t := 16) vr_265_4 rfl rfl rfl (fun x883 e883 q883 => ?_) (fun x883 e883 q883 => ?_)
    · cases e883
      have c883 := of_decide_eq_true q883
      exact absurd c883 (by decide)
    · cases e883
      have c883 := ndc q883
      refine zSaload (m := 1) (k := 0) vr_265_7 rfl rfl rfl ?_
      refine zLget vr_265_8 rfl (fun p885 w885 e885 t885 g885 => ?_)
      cases e885
      first | (rw [d.1] at g885; cases g885) | skip
      refine zSiload (m := 1) (k := 1) vr_265_11 rfl rfl rfl (fun x886 e886 => ?_)
      cases e886
      refine zScall vr_265_12 rfl rfl rfl (fun m887 _ => C_ch1 _ _ _ _ _) (fun v887 h887 u887 q887 => ?_) (fun E887 h887 u887 q887 => ?_)
      · obtain ⟨eh887, y887, x887, w1, w2, w3, z887⟩ := q887
        replace eh887 := eh887.symm
        subst eh887
        cases z887
        show zL zrx zi _ 265 15 [(0, _), (1, _)] [_] _ _ _
        have xl := st_len w3 d.2.2.1
        obtain ⟨t1, t2⟩ := d.2.2.2.2.1 _ xl
        rw [t1] at w3
        cases w3
        rw [ch_id t2]
        refine zLiret vr_265_15 rfl (fun x888 e888 => ?_)
        cases e888
        exact ⟨rfl, _, w1, w2, xl, rfl⟩
      · obtain ⟨-, _, _, -, -, -, z⟩ := q887
        cases z
  · obtain ⟨-, z⟩ := q882
    cases z
theorem C_slen (n : Nat) (s : Nat) (h : List zC) (u : Nat) {T : Nat → Int32} {L b : Nat} (d : SB T L s b h) : zL zrx zi n 264 0 [(0, .ref s)] [] h u (fun o h2 _ => h2 = h ∧ o = .inl (some (.int (Int32.ofNat L)))) := by
  refine zSaload (m := 1) (k := 0) vr_264_0 rfl rfl rfl ?_
  refine zLget vr_264_1 rfl (fun p890 w890 e890 t890 g890 => ?_)
  cases e890
  first | (rw [d.1] at g890; cases g890) | skip
  refine zLlen vr_264_4 rfl (fun p891 m891 e891 g891 => ?_)
  cases e891
  have en := g891
  rw [d.2.2.1] at en
  cases en
  refine zSaload (m := 1) (k := 0) vr_264_5 rfl rfl rfl ?_
  refine zScall vr_264_6 rfl rfl rfl (fun m893 _ => C_coder _ _ _ _ d.2.1) (fun v893 h893 u893 q893 => ?_) (fun E893 h893 u893 q893 => ?_)
  · obtain ⟨eh893, z893⟩ := q893
    replace eh893 := eh893.symm
    subst eh893
    cases z893
    show zL zrx zi _ 264 9 [(0, _)] [_, _] _ _ _
    refine zS2 (f := fun x y => .int (x >>> (y &&& 31))) vr_264_9 rfl rfl (fun x894 y894 e894 f894 => ?_)
    cases e894
    cases f894
    refine zLiret vr_264_10 rfl (fun x895 e895 => ?_)
    cases e895
    refine ⟨rfl, ?_⟩
    rw [sh0_tab L (by have := d.l60; omega)]
  · obtain ⟨-, z⟩ := q893
    cases z
theorem C_isD (n : Nat) (x : Int32) (h : List zC) (u : Nat) : zL zrx zi n 144 0 [(0, .int x)] [] h u (fun o h2 _ => h2 = h ∧ o = .inl (some (.int (isD x)))) := by
  refine zSiload (m := 1) (k := 0) vr_144_0 rfl rfl rfl (fun x896 e896 => ?_)
  cases e896
  refine zSp0 (pc' := 3) (st' := .int (48) :: _) vr_144_1 rfl rfl ?_
  refine zSb2 (f := fun x y => decide (x < y)) (off := 13) (t := 16) vr_144_3 rfl rfl rfl (fun x898 y898 e898 f898 q898 => ?_) (fun x898 y898 e898 f898 q898 => ?_)
  · cases e898
    cases f898
    have c898 := of_decide_eq_true q898
    refine zSp0 (pc' := 17) (st' := .int (0) :: _) vr_144_16 rfl rfl ?_
    refine zLiret vr_144_17 rfl (fun x900 e900 => ?_)
    cases e900
    refine ⟨rfl, ?_⟩
    unfold isD
    first
      | rw [if_pos c898]
      | rw [if_neg c898, if_pos c894]
      | rw [if_neg c898, if_neg c894]
  · cases e898
    cases f898
    have c898 := ndc q898
    refine zSiload (m := 1) (k := 0) vr_144_6 rfl rfl rfl (fun x901 e901 => ?_)
    cases e901
    refine zSp0 (pc' := 9) (st' := .int (57) :: _) vr_144_7 rfl rfl ?_
    refine zSb2 (f := fun x y => decide (y < x)) (off := 7) (t := 16) vr_144_9 rfl rfl rfl (fun x903 y903 e903 f903 q903 => ?_) (fun x903 y903 e903 f903 q903 => ?_)
    · cases e903
      cases f903
      have c903 := of_decide_eq_true q903
      refine zSp0 (pc' := 17) (st' := .int (0) :: _) vr_144_16 rfl rfl ?_
      refine zLiret vr_144_17 rfl (fun x905 e905 => ?_)
      cases e905
      refine ⟨rfl, ?_⟩
      unfold isD
      first
        | rw [if_pos c898]
        | rw [if_neg c898, if_pos c903]
        | rw [if_neg c898, if_neg c903]
    · cases e903
      cases f903
      have c903 := ndc q903
      refine zSp0 (pc' := 13) (st' := .int (1) :: _) vr_144_12 rfl rfl ?_
      refine zSgo (t := 17) vr_144_13 rfl rfl ?_
      refine zLiret vr_144_17 rfl (fun x908 e908 => ?_)
      cases e908
      refine ⟨rfl, ?_⟩
      unfold isD
      first
        | rw [if_pos c898]
        | rw [if_neg c898, if_pos c903]
        | rw [if_neg c898, if_neg c903]
theorem C_msg {T : Nat → Int32} {L s b : Nat} {bd : Int32} : ∀ (n : Nat) (a : Int32) (h : List zC) (u : Nat), MB T L s b h a bd → zL zrx zi n 142 0 [(0, .ref 213)] [] h u (fun o h2 _ => FM h h2 ∧ ∃ a2 c : Int32, o = .inl (some (.int c)) ∧ MB T L s b h2 a2 bd ∧ ∀ p, p ≤ L → a = Int32.ofNat p → c = sgM T L p ∧ a2 = Int32.ofNat (skp T L p))
  | 0, _, _, _, _ => trivial
  | n + 1, a, h, u, d => by
    have l60 := d.sb.l60
    refine zLp vr_142_0 rfl rfl ?_
    refine zLget vr_142_1 rfl (fun p909 w909 e909 t909 g909 => ?_)
    cases e909
    first | (rw [d.at] at g909; cases g909) | (rw [d.fed] at g909; cases g909) | skip
    refine zSaload (m := 1) (k := 0) vr_142_4 rfl rfl rfl ?_
    refine zLget vr_142_5 rfl (fun p911 w911 e911 t911 g911 => ?_)
    cases e911
    first | (rw [d.at] at g911; cases g911) | (rw [d.fed] at g911; cases g911) | skip
    refine zScall vr_142_8 rfl rfl rfl (fun m912 _ => C_slen _ _ _ _ d.sb) (fun v912 h912 u912 q912 => ?_) (fun E912 h912 u912 q912 => ?_)
    · obtain ⟨eh912, z912⟩ := q912
      replace eh912 := eh912.symm
      subst eh912
      cases z912
      show zL zrx zi _ 142 11 [(0, _)] [_, _] _ _ _
      refine zSb2 (f := fun x y => decide (y ≤ x)) (off := 32) (t := 43) vr_142_11 rfl rfl rfl (fun x913 y913 e913 f913 q913 => ?_) (fun x913 y913 e913 f913 q913 => ?_)
      · cases e913
        cases f913
        have c913 := of_decide_eq_true q913
        refine zSaload (m := 1) (k := 0) vr_142_43 rfl rfl rfl ?_
        refine zLget vr_142_44 rfl (fun p915 w915 e915 t915 g915 => ?_)
        cases e915
        first | (rw [d.at] at g915; cases g915) | (rw [d.fed] at g915; cases g915) | skip
        refine zSaload (m := 1) (k := 0) vr_142_47 rfl rfl rfl ?_
        refine zLget vr_142_48 rfl (fun p917 w917 e917 t917 g917 => ?_)
        cases e917
        first | (rw [d.at] at g917; cases g917) | (rw [d.fed] at g917; cases g917) | skip
        refine zScall vr_142_51 rfl rfl rfl (fun m918 _ => C_slen _ _ _ _ d.sb) (fun v918 h918 u918 q918 => ?_) (fun E918 h918 u918 q918 => ?_)
        · obtain ⟨eh918, z918⟩ := q918
          replace eh918 := eh918.symm
          subst eh918
          cases z918
          show zL zrx zi _ 142 54 [(0, _)] [_, _] _ _ _
          refine zSb2 (f := fun x y => decide (y ≤ x)) (off := 17) (t := 71) vr_142_54 rfl rfl rfl (fun x919 y919 e919 f919 q919 => ?_) (fun x919 y919 e919 f919 q919 => ?_)
          · cases e919
            cases f919
            have c919 := of_decide_eq_true q919
            refine zSp0 (pc' := 73) (st' := .int (10) :: _) vr_142_71 rfl rfl ?_
            refine zLiret vr_142_73 rfl (fun x921 e921 => ?_)
            cases e921
            refine ⟨FM.refl _, _, _, rfl, d, fun p hp e => ?_⟩
            subst e
            have kp := toNat_ofNat (m := p) (by omega)
            have cl := on_lt (a := L) (b := p) (by omega) (by omega)
            first
              | (have e1 : skp T L p = p := skp_n (fun z => c779 (by rw [kp.1]; exact z.2))
                 unfold sgM
                 rw [e1, if_pos (by have y := c913; rw [cl.2] at y; omega), kp.1]
                 exact ⟨rfl, rfl⟩)
              | (have e1 : skp T L p = p := skp_n (fun z => by have y := c913; rw [cl.2] at y; omega)
                 unfold sgM
                 rw [e1, if_neg (by have y := c919; rw [cl.2] at y; omega)]
                 exact ⟨rfl, rfl⟩)
              | (exfalso
                 have y := c913
                 have y2 := c919
                 rw [cl.2] at y y2
                 omega)
          · cases e919
            cases f919
            have c919 := ndc q919
            refine zSaload (m := 1) (k := 0) vr_142_57 rfl rfl rfl ?_
            refine zLget vr_142_58 rfl (fun p923 w923 e923 t923 g923 => ?_)
            cases e923
            first | (rw [d.at] at g923; cases g923) | (rw [d.fed] at g923; cases g923) | skip
            refine zSaload (m := 1) (k := 0) vr_142_61 rfl rfl rfl ?_
            refine zLget vr_142_62 rfl (fun p925 w925 e925 t925 g925 => ?_)
            cases e925
            first | (rw [d.at] at g925; cases g925) | (rw [d.fed] at g925; cases g925) | skip
            refine zScall vr_142_65 rfl rfl rfl (fun m926 _ => C_charAt _ _ _ _ _ d.sb) (fun v926 h926 u926 q926 => ?_) (fun E926 h926 u926 q926 => ?_)
            · obtain ⟨eh926, x926, i926, n926, l926, z926⟩ := q926
              replace eh926 := eh926.symm
              subst eh926
              cases z926
              cases i926
              show zL zrx zi _ 142 68 [(0, _)] [_] _ _ _
              refine zSgo (t := 73) vr_142_68 rfl rfl ?_
              refine zLiret vr_142_73 rfl (fun x928 e928 => ?_)
              cases e928
              refine ⟨FM.refl _, _, _, rfl, d, fun p hp e => ?_⟩
              subst e
              have kp := toNat_ofNat (m := p) (by omega)
              have cl := on_lt (a := L) (b := p) (by omega) (by omega)
              first
                | (have e1 : skp T L p = p := skp_n (fun z => c779 (by rw [kp.1]; exact z.2))
                   unfold sgM
                   rw [e1, if_pos (by have y := c913; rw [cl.2] at y; omega), kp.1]
                   exact ⟨rfl, rfl⟩)
                | (have e1 : skp T L p = p := skp_n (fun z => by have y := c913; rw [cl.2] at y; omega)
                   unfold sgM
                   rw [e1, if_neg (by have y := c919; rw [cl.2] at y; omega)]
                   exact ⟨rfl, rfl⟩)
                | (exfalso
                   have y := c913
                   have y2 := c919
                   rw [cl.2] at y y2
                   omega)
            · obtain ⟨-, _, -, -, -, z⟩ := q926
              cases z
        · obtain ⟨-, z⟩ := q918
          cases z
      · cases e913
        cases f913
        have c913 := ndc q913
        refine zSaload (m := 1) (k := 0) vr_142_14 rfl rfl rfl ?_
        refine zLget vr_142_15 rfl (fun p930 w930 e930 t930 g930 => ?_)
        cases e930
        first | (rw [d.at] at g930; cases g930) | (rw [d.fed] at g930; cases g930) | skip
        refine zSaload (m := 1) (k := 0) vr_142_18 rfl rfl rfl ?_
        refine zLget vr_142_19 rfl (fun p932 w932 e932 t932 g932 => ?_)
        cases e932
        first | (rw [d.at] at g932; cases g932) | (rw [d.fed] at g932; cases g932) | skip
        refine zScall vr_142_22 rfl rfl rfl (fun m933 _ => C_charAt _ _ _ _ _ d.sb) (fun v933 h933 u933 q933 => ?_) (fun E933 h933 u933 q933 => ?_)
        · obtain ⟨eh933, x933, i933, n933, l933, z933⟩ := q933
          replace eh933 := eh933.symm
          subst eh933
          cases z933
          cases i933
          show zL zrx zi _ 142 25 [(0, _)] [_] _ _ _
          refine zSp0 (pc' := 27) (st' := .int (32) :: _) vr_142_25 rfl rfl ?_
          refine zSb2 (f := fun x y => decide (¬ x = y)) (off := 16) (t := 43) vr_142_27 rfl rfl rfl (fun x935 y935 e935 f935 q935 => ?_) (fun x935 y935 e935 f935 q935 => ?_)
          · cases e935
            cases f935
            have c935 := of_decide_eq_true q935
            refine zSaload (m := 1) (k := 0) vr_142_43 rfl rfl rfl ?_
            refine zLget vr_142_44 rfl (fun p937 w937 e937 t937 g937 => ?_)
            cases e937
            first | (rw [d.at] at g937; cases g937) | (rw [d.fed] at g937; cases g937) | skip
            refine zSaload (m := 1) (k := 0) vr_142_47 rfl rfl rfl ?_
            refine zLget vr_142_48 rfl (fun p939 w939 e939 t939 g939 => ?_)
            cases e939
            first | (rw [d.at] at g939; cases g939) | (rw [d.fed] at g939; cases g939) | skip
            refine zScall vr_142_51 rfl rfl rfl (fun m940 _ => C_slen _ _ _ _ d.sb) (fun v940 h940 u940 q940 => ?_) (fun E940 h940 u940 q940 => ?_)
            · obtain ⟨eh940, z940⟩ := q940
              replace eh940 := eh940.symm
              subst eh940
              cases z940
              show zL zrx zi _ 142 54 [(0, _)] [_, _] _ _ _
              refine zSb2 (f := fun x y => decide (y ≤ x)) (off := 17) (t := 71) vr_142_54 rfl rfl rfl (fun x941 y941 e941 f941 q941 => ?_) (fun x941 y941 e941 f941 q941 => ?_)
              · cases e941
                cases f941
                have c941 := of_decide_eq_true q941
                refine zSp0 (pc' := 73) (st' := .int (10) :: _) vr_142_71 rfl rfl ?_
                refine zLiret vr_142_73 rfl (fun x943 e943 => ?_)
                cases e943
                refine ⟨FM.refl _, _, _, rfl, d, fun p hp e => ?_⟩
                subst e
                have kp := toNat_ofNat (m := p) (by omega)
                have cl := on_lt (a := L) (b := p) (by omega) (by omega)
                first
                  | (have e1 : skp T L p = p := skp_n (fun z => c935 (by rw [kp.1]; exact z.2))
                     unfold sgM
                     rw [e1, if_pos (by have y := c913; rw [cl.2] at y; omega), kp.1]
                     exact ⟨rfl, rfl⟩)
                  | (have e1 : skp T L p = p := skp_n (fun z => by have y := c913; rw [cl.2] at y; omega)
                     unfold sgM
                     rw [e1, if_neg (by have y := c941; rw [cl.2] at y; omega)]
                     exact ⟨rfl, rfl⟩)
                  | (exfalso
                     have y := c913
                     have y2 := c941
                     rw [cl.2] at y y2
                     omega)
              · cases e941
                cases f941
                have c941 := ndc q941
                refine zSaload (m := 1) (k := 0) vr_142_57 rfl rfl rfl ?_
                refine zLget vr_142_58 rfl (fun p945 w945 e945 t945 g945 => ?_)
                cases e945
                first | (rw [d.at] at g945; cases g945) | (rw [d.fed] at g945; cases g945) | skip
                refine zSaload (m := 1) (k := 0) vr_142_61 rfl rfl rfl ?_
                refine zLget vr_142_62 rfl (fun p947 w947 e947 t947 g947 => ?_)
                cases e947
                first | (rw [d.at] at g947; cases g947) | (rw [d.fed] at g947; cases g947) | skip
                refine zScall vr_142_65 rfl rfl rfl (fun m948 _ => C_charAt _ _ _ _ _ d.sb) (fun v948 h948 u948 q948 => ?_) (fun E948 h948 u948 q948 => ?_)
                · obtain ⟨eh948, x948, i948, n948, l948, z948⟩ := q948
                  replace eh948 := eh948.symm
                  subst eh948
                  cases z948
                  cases i948
                  show zL zrx zi _ 142 68 [(0, _)] [_] _ _ _
                  refine zSgo (t := 73) vr_142_68 rfl rfl ?_
                  refine zLiret vr_142_73 rfl (fun x950 e950 => ?_)
                  cases e950
                  refine ⟨FM.refl _, _, _, rfl, d, fun p hp e => ?_⟩
                  subst e
                  have kp := toNat_ofNat (m := p) (by omega)
                  have cl := on_lt (a := L) (b := p) (by omega) (by omega)
                  first
                    | (have e1 : skp T L p = p := skp_n (fun z => c935 (by rw [kp.1]; exact z.2))
                       unfold sgM
                       rw [e1, if_pos (by have y := c913; rw [cl.2] at y; omega), kp.1]
                       exact ⟨rfl, rfl⟩)
                    | (have e1 : skp T L p = p := skp_n (fun z => by have y := c913; rw [cl.2] at y; omega)
                       unfold sgM
                       rw [e1, if_neg (by have y := c941; rw [cl.2] at y; omega)]
                       exact ⟨rfl, rfl⟩)
                    | (exfalso
                       have y := c913
                       have y2 := c941
                       rw [cl.2] at y y2
                       omega)
                · obtain ⟨-, _, -, -, -, z⟩ := q948
                  cases z
            · obtain ⟨-, z⟩ := q940
              cases z
          · cases e935
            cases f935
            have c935 := ndc q935
            refine zSaload (m := 1) (k := 0) vr_142_30 rfl rfl rfl ?_
            refine zSdup vr_142_31 rfl ?_
            refine zLget vr_142_32 rfl (fun p953 w953 e953 t953 g953 => ?_)
            cases e953
            first | (rw [d.at] at g953; cases g953) | (rw [d.fed] at g953; cases g953) | skip
            refine zSp0 (pc' := 36) (st' := .int (1) :: _) vr_142_35 rfl rfl ?_
            refine zS2 (f := fun x y => .int (x + y)) vr_142_36 rfl rfl (fun x955 y955 e955 f955 => ?_)
            cases e955
            cases f955
            refine zLput vr_142_37 rfl (fun p956 k956 e956 t956 g956 => ?_)
            cases e956
            refine zSgo (t := 0) vr_142_40 rfl rfl ?_
            obtain ⟨d1, f1⟩ := d.putA g956
            refine zL_K _ _ _ _ _ _ _ _ _ (C_msg n _ _ _ d1) (fun o h2 u2 q => ?_)
            obtain ⟨f2, a2, c, q1, q2, q3⟩ := q
            refine ⟨f1.trans f2, a2, c, q1, q2, fun p hp e => ?_⟩
            subst e
            have kp := toNat_ofNat (m := p) (by omega)
            have cl := on_lt (a := L) (b := p) (by omega) (by omega)
            have hp2 : p < L := by
              have y := c913
              rw [cl.2] at y
              omega
            have et : T p = 32 := by
              have y := Decidable.not_not.mp c935
              rw [kp.1] at y
              exact y
            obtain ⟨w1, w2⟩ := q3 (p + 1) (by omega) (ofNat_succ1 p)
            unfold sgM at w1 ⊢
            rw [skp_y hp2 et]
            exact ⟨w1, w2⟩
        · obtain ⟨-, _, -, -, -, z⟩ := q933
          cases z
    · obtain ⟨-, z⟩ := q912
      cases z
theorem C_mtk (n : Nat) (c : Int32) (h : List zC) (u : Nat) {T : Nat → Int32} {L s b : Nat} {a bd : Int32} (d : MB T L s b h a bd) (hc : ¬ c = 10 ∧ ¬ c = -1) : zL zrx zi n 143 0 [(0, .ref 213), (1, .int c)] [] h u (fun o h2 _ => FM h h2 ∧ ∃ a2 r : Int32, o = .inl (some (.int r)) ∧ MB T L s b h2 a2 bd ∧ ∀ p, p ≤ L → a = Int32.ofNat p → r = (tkS T L c p).1 ∧ a2 = Int32.ofNat (tkS T L c p).2) := by
  refine zSaload (m := 1) (k := 0) vr_143_0 rfl rfl rfl ?_
  refine zScall vr_143_1 rfl rfl rfl (fun m959 _ => C_msg _ _ _ _ d) (fun v959 h959 u959 q959 => ?_) (fun E959 h959 u959 q959 => ?_)
  · obtain ⟨f1, a2, c1, z959, d1, k1⟩ := q959
    cases z959
    show zL zrx zi _ 143 4 [(0, _), (1, _)] [_] _ _ _
    refine zSiload (m := 1) (k := 1) vr_143_4 rfl rfl rfl (fun x960 e960 => ?_)
    cases e960
    refine zSb2 (f := fun x y => decide (x = y)) (off := 5) (t := 10) vr_143_5 rfl rfl rfl (fun x961 y961 e961 f961 q961 => ?_) (fun x961 y961 e961 f961 q961 => ?_)
    · cases e961
      cases f961
      have c961 := of_decide_eq_true q961
      refine zSaload (m := 1) (k := 0) vr_143_10 rfl rfl rfl ?_
      refine zSdup vr_143_11 rfl ?_
      refine zLget vr_143_12 rfl (fun p964 w964 e964 t964 g964 => ?_)
      cases e964
      first | (rw [d1.at] at g964; cases g964) | skip
      refine zSp0 (pc' := 16) (st' := .int (1) :: _) vr_143_15 rfl rfl ?_
      refine zS2 (f := fun x y => .int (x + y)) vr_143_16 rfl rfl (fun x966 y966 e966 f966 => ?_)
      cases e966
      cases f966
      refine zLput vr_143_17 rfl (fun p967 k967 e967 t967 g967 => ?_)
      cases e967
      refine zSp0 (pc' := 21) (st' := .int (1) :: _) vr_143_20 rfl rfl ?_
      refine zLiret vr_143_21 rfl (fun x969 e969 => ?_)
      cases e969
      obtain ⟨d2, f2⟩ := d1.putA g967
      refine ⟨f1.trans f2, _, _, rfl, d2, fun p hp e => ?_⟩
      obtain ⟨w1, w2⟩ := k1 p hp e
      unfold tkS
      rw [if_pos ((sgM_c (fun i hi => (d.sb.2.2.2.2.1 i hi).2) hc.1 hc.2).mp (by rw [← w1]; exact c961))]
      exact ⟨rfl, by rw [w2, ofNat_succ1]⟩
    · cases e961
      cases f961
      have c961 := ndc q961
      refine zSp0 (pc' := 9) (st' := .int (0) :: _) vr_143_8 rfl rfl ?_
      refine zLiret vr_143_9 rfl (fun x971 e971 => ?_)
      cases e971
      refine ⟨f1, _, _, rfl, d1, fun p hp e => ?_⟩
      obtain ⟨w1, w2⟩ := k1 p hp e
      unfold tkS
      rw [if_neg (fun z => c961 (by rw [w1]; exact (sgM_c (fun i hi => (d.sb.2.2.2.2.1 i hi).2) hc.1 hc.2).mpr z))]
      exact ⟨rfl, w2⟩
  · obtain ⟨-, _, _, z, -⟩ := q959
    cases z
theorem C_mdg (n : Nat) (m : Int32) (h : List zC) (u : Nat) {T : Nat → Int32} {L s b : Nat} {a bd : Int32} (d : MB T L s b h a bd) (hm : 0 ≤ m.toInt ∧ m.toInt ≤ 10) : zL zrx zi n 145 0 [(0, .ref 213), (1, .int m)] [] h u (fun o h2 _ => FM h h2 ∧ ∃ a2 bd2 v : Int32, o = .inl (some (.int v)) ∧ MB T L s b h2 a2 bd2 ∧ (bd = 1 → bd2 = 1) ∧ (bd = 0 → ∀ p, p ≤ L → a = Int32.ofNat p → ((tkD T L m p).1 = -1 ∧ bd2 = 1) ∨ (¬ (tkD T L m p).1 = -1 ∧ bd2 = 0 ∧ v = (tkD T L m p).1 ∧ a2 = Int32.ofNat (tkD T L m p).2))) := by
  refine zSaload (m := 1) (k := 0) vr_145_0 rfl rfl rfl ?_
  refine zScall vr_145_1 rfl rfl rfl (fun m973 _ => C_msg _ _ _ _ d) (fun v973 h973 u973 q973 => ?_) (fun E973 h973 u973 q973 => ?_)
  · obtain ⟨f1, a2, c1, z973, d1, k1⟩ := q973
    cases z973
    show zL zrx zi _ 145 4 [(0, _), (1, _)] [_] _ _ _
    refine zSistore (m := 1) (k := 2) vr_145_4 rfl rfl (fun x974 e974 => ?_)
    cases e974
    show zL zrx zi _ 145 5 [(2, _), (0, _), (1, _)] [] _ _ _
    refine zSaload (m := 1) (k := 0) vr_145_5 rfl rfl rfl ?_
    refine zSdup vr_145_6 rfl ?_
    refine zLget vr_145_7 rfl (fun p977 w977 e977 t977 g977 => ?_)
    cases e977
    first | (rw [d1.at] at g977; cases g977) | (rw [d1.fl] at g977; cases g977) | skip
    refine zSiload (m := 1) (k := 2) vr_145_10 rfl rfl rfl (fun x978 e978 => ?_)
    cases e978
    refine zScall vr_145_11 rfl rfl rfl (fun m979 _ => C_isD _ _ _ _) (fun v979 h979 u979 q979 => ?_) (fun E979 h979 u979 q979 => ?_)
    · obtain ⟨eh979, z979⟩ := q979
      replace eh979 := eh979.symm
      subst eh979
      cases z979
      show zL zrx zi _ 145 14 [(2, _), (0, _), (1, _)] [_, _, _] _ _ _
      refine zSb1 (f := fun x => decide (x = 0)) (off := 11) (t := 25) vr_145_14 rfl rfl rfl (fun x980 e980 q980 => ?_) (fun x980 e980 q980 => ?_)
      · cases e980
        have c980 := of_decide_eq_true q980
        refine zSp0 (pc' := 26) (st' := .int (1) :: _) vr_145_25 rfl rfl ?_
        refine zSgo (t := 30) vr_145_26 rfl rfl ?_
        refine zS2 (f := fun x y => .int (x ||| y)) vr_145_30 rfl rfl (fun x983 y983 e983 f983 => ?_)
        cases e983
        cases f983
        refine zLput vr_145_31 rfl (fun p984 k984 e984 t984 g984 => ?_)
        cases e984
        obtain ⟨d2, f2⟩ := d1.putB g984 (by first | exact or01 d1.or (Or.inr rfl) | exact or01 d1.or (Or.inl rfl))
        refine zSaload (m := 1) (k := 0) vr_145_34 rfl rfl rfl ?_
        refine zSdup vr_145_35 rfl ?_
        refine zLget vr_145_36 rfl (fun p987 w987 e987 t987 g987 => ?_)
        cases e987
        first | (rw [d2.at] at g987; cases g987) | (rw [d2.fl] at g987; cases g987) | skip
        refine zSp0 (pc' := 40) (st' := .int (1) :: _) vr_145_39 rfl rfl ?_
        refine zS2 (f := fun x y => .int (x + y)) vr_145_40 rfl rfl (fun x989 y989 e989 f989 => ?_)
        cases e989
        cases f989
        refine zLput vr_145_41 rfl (fun p990 k990 e990 t990 g990 => ?_)
        cases e990
        obtain ⟨d3, f3⟩ := d2.putA g990
        refine zSaload (m := 1) (k := 0) vr_145_44 rfl rfl rfl ?_
        refine zLget vr_145_45 rfl (fun p992 w992 e992 t992 g992 => ?_)
        cases e992
        first | (rw [d3.fl] at g992; cases g992) | skip
        refine zSb1 (f := fun x => decide (x = 0)) (off := 7) (t := 55) vr_145_48 rfl rfl rfl (fun x993 e993 q993 => ?_) (fun x993 e993 q993 => ?_)
        · cases e993
          have c993 := of_decide_eq_true q993
          refine zSiload (m := 1) (k := 2) vr_145_55 rfl rfl rfl (fun x994 e994 => ?_)
          cases e994
          refine zSp0 (pc' := 58) (st' := .int (48) :: _) vr_145_56 rfl rfl ?_
          refine zS2 (f := fun x y => .int (x - y)) vr_145_58 rfl rfl (fun x996 y996 e996 f996 => ?_)
          cases e996
          cases f996
          refine zLiret vr_145_59 rfl (fun x997 e997 => ?_)
          cases e997
          refine ⟨(f1.trans f2).trans f3, _, _, _, rfl, d3, fun z => by rw [z]; decide, fun z p hp e => ?_⟩
          obtain ⟨w1, w2⟩ := k1 p hp e
          first
            | (have nd : ¬ rI 48 57 (sg T L p) := fun y => isD_n c980 (by rw [w1]; exact sgM_D.mpr y)
               exact Or.inl ⟨by rw [tkD_nd hm nd], by rw [z]; decide⟩)
            | (have yd : rI 48 57 (sg T L p) := sgM_D.mp (by rw [← w1]; exact isD_y c980)
               have es : c1 = sg T L p := by rw [w1]; exact sgM_e yd
               first
                 | exact Or.inl ⟨by rw [tkD_ge hm yd (by rw [← es]; exact c933)], by rw [z]; decide⟩
                 | (obtain ⟨t1, t2⟩ := tkD_ok hm yd (by rw [← es]; exact c933)
                    first
                      | exact absurd (by rw [z]; decide) c993
                      | exact Or.inr ⟨by rw [t1]; exact t2, by rw [z]; decide, by rw [t1, es], by rw [t1, w2, ofNat_succ1]⟩))
        · cases e993
          have c993 := ndc q993
          refine zSp0 (pc' := 52) (st' := .int (0) :: _) vr_145_51 rfl rfl ?_
          refine zSgo (t := 59) vr_145_52 rfl rfl ?_
          refine zLiret vr_145_59 rfl (fun x1000 e1000 => ?_)
          cases e1000
          refine ⟨(f1.trans f2).trans f3, _, _, _, rfl, d3, fun z => by rw [z]; decide, fun z p hp e => ?_⟩
          obtain ⟨w1, w2⟩ := k1 p hp e
          first
            | (have nd : ¬ rI 48 57 (sg T L p) := fun y => isD_n c980 (by rw [w1]; exact sgM_D.mpr y)
               exact Or.inl ⟨by rw [tkD_nd hm nd], by rw [z]; decide⟩)
            | (have yd : rI 48 57 (sg T L p) := sgM_D.mp (by rw [← w1]; exact isD_y c980)
               have es : c1 = sg T L p := by rw [w1]; exact sgM_e yd
               first
                 | exact Or.inl ⟨by rw [tkD_ge hm yd (by rw [← es]; exact c933)], by rw [z]; decide⟩
                 | (obtain ⟨t1, t2⟩ := tkD_ok hm yd (by rw [← es]; exact c933)
                    first
                      | exact absurd (by rw [z]; decide) c993
                      | exact Or.inr ⟨by rw [t1]; exact t2, by rw [z]; decide, by rw [t1, es], by rw [t1, w2, ofNat_succ1]⟩))
      · cases e980
        have c980 := ndc q980
        refine zSiload (m := 1) (k := 2) vr_145_17 rfl rfl rfl (fun x1001 e1001 => ?_)
        cases e1001
        refine zSp0 (pc' := 20) (st' := .int (48) :: _) vr_145_18 rfl rfl ?_
        refine zS2 (f := fun x y => .int (x - y)) vr_145_20 rfl rfl (fun x1003 y1003 e1003 f1003 => ?_)
        cases e1003
        cases f1003
        refine zSiload (m := 1) (k := 1) vr_145_21 rfl rfl rfl (fun x1004 e1004 => ?_)
        cases e1004
        refine zSb2 (f := fun x y => decide (x < y)) (off := 7) (t := 29) vr_145_22 rfl rfl rfl (fun x1005 y1005 e1005 f1005 q1005 => ?_) (fun x1005 y1005 e1005 f1005 q1005 => ?_)
        · cases e1005
          cases f1005
          have c1005 := of_decide_eq_true q1005
          refine zSp0 (pc' := 30) (st' := .int (0) :: _) vr_145_29 rfl rfl ?_
          refine zS2 (f := fun x y => .int (x ||| y)) vr_145_30 rfl rfl (fun x1007 y1007 e1007 f1007 => ?_)
          cases e1007
          cases f1007
          refine zLput vr_145_31 rfl (fun p1008 k1008 e1008 t1008 g1008 => ?_)
          cases e1008
          obtain ⟨d2, f2⟩ := d1.putB g1008 (by first | exact or01 d1.or (Or.inr rfl) | exact or01 d1.or (Or.inl rfl))
          refine zSaload (m := 1) (k := 0) vr_145_34 rfl rfl rfl ?_
          refine zSdup vr_145_35 rfl ?_
          refine zLget vr_145_36 rfl (fun p1011 w1011 e1011 t1011 g1011 => ?_)
          cases e1011
          first | (rw [d2.at] at g1011; cases g1011) | (rw [d2.fl] at g1011; cases g1011) | skip
          refine zSp0 (pc' := 40) (st' := .int (1) :: _) vr_145_39 rfl rfl ?_
          refine zS2 (f := fun x y => .int (x + y)) vr_145_40 rfl rfl (fun x1013 y1013 e1013 f1013 => ?_)
          cases e1013
          cases f1013
          refine zLput vr_145_41 rfl (fun p1014 k1014 e1014 t1014 g1014 => ?_)
          cases e1014
          obtain ⟨d3, f3⟩ := d2.putA g1014
          refine zSaload (m := 1) (k := 0) vr_145_44 rfl rfl rfl ?_
          refine zLget vr_145_45 rfl (fun p1016 w1016 e1016 t1016 g1016 => ?_)
          cases e1016
          first | (rw [d3.fl] at g1016; cases g1016) | skip
          refine zSb1 (f := fun x => decide (x = 0)) (off := 7) (t := 55) vr_145_48 rfl rfl rfl (fun x1017 e1017 q1017 => ?_) (fun x1017 e1017 q1017 => ?_)
          · cases e1017
            have c1017 := of_decide_eq_true q1017
            refine zSiload (m := 1) (k := 2) vr_145_55 rfl rfl rfl (fun x1018 e1018 => ?_)
            cases e1018
            refine zSp0 (pc' := 58) (st' := .int (48) :: _) vr_145_56 rfl rfl ?_
            refine zS2 (f := fun x y => .int (x - y)) vr_145_58 rfl rfl (fun x1020 y1020 e1020 f1020 => ?_)
            cases e1020
            cases f1020
            refine zLiret vr_145_59 rfl (fun x1021 e1021 => ?_)
            cases e1021
            refine ⟨(f1.trans f2).trans f3, _, _, _, rfl, d3, fun z => by rw [z]; decide, fun z p hp e => ?_⟩
            obtain ⟨w1, w2⟩ := k1 p hp e
            first
              | (have nd : ¬ rI 48 57 (sg T L p) := fun y => isD_n c980 (by rw [w1]; exact sgM_D.mpr y)
                 exact Or.inl ⟨by rw [tkD_nd hm nd], by rw [z]; decide⟩)
              | (have yd : rI 48 57 (sg T L p) := sgM_D.mp (by rw [← w1]; exact isD_y c980)
                 have es : c1 = sg T L p := by rw [w1]; exact sgM_e yd
                 first
                   | exact Or.inl ⟨by rw [tkD_ge hm yd (by rw [← es]; exact c1005)], by rw [z]; decide⟩
                   | (obtain ⟨t1, t2⟩ := tkD_ok hm yd (by rw [← es]; exact c1005)
                      first
                        | exact absurd (by rw [z]; decide) c1017
                        | exact Or.inr ⟨by rw [t1]; exact t2, by rw [z]; decide, by rw [t1, es], by rw [t1, w2, ofNat_succ1]⟩))
          · cases e1017
            have c1017 := ndc q1017
            refine zSp0 (pc' := 52) (st' := .int (0) :: _) vr_145_51 rfl rfl ?_
            refine zSgo (t := 59) vr_145_52 rfl rfl ?_
            refine zLiret vr_145_59 rfl (fun x1024 e1024 => ?_)
            cases e1024
            refine ⟨(f1.trans f2).trans f3, _, _, _, rfl, d3, fun z => by rw [z]; decide, fun z p hp e => ?_⟩
            obtain ⟨w1, w2⟩ := k1 p hp e
            first
              | (have nd : ¬ rI 48 57 (sg T L p) := fun y => isD_n c980 (by rw [w1]; exact sgM_D.mpr y)
                 exact Or.inl ⟨by rw [tkD_nd hm nd], by rw [z]; decide⟩)
              | (have yd : rI 48 57 (sg T L p) := sgM_D.mp (by rw [← w1]; exact isD_y c980)
                 have es : c1 = sg T L p := by rw [w1]; exact sgM_e yd
                 first
                   | exact Or.inl ⟨by rw [tkD_ge hm yd (by rw [← es]; exact c1005)], by rw [z]; decide⟩
                   | (obtain ⟨t1, t2⟩ := tkD_ok hm yd (by rw [← es]; exact c1005)
                      first
                        | exact absurd (by rw [z]; decide) c1017
                        | exact Or.inr ⟨by rw [t1]; exact t2, by rw [z]; decide, by rw [t1, es], by rw [t1, w2, ofNat_succ1]⟩))
        · cases e1005
          cases f1005
          have c1005 := ndc q1005
          refine zSp0 (pc' := 26) (st' := .int (1) :: _) vr_145_25 rfl rfl ?_
          refine zSgo (t := 30) vr_145_26 rfl rfl ?_
          refine zS2 (f := fun x y => .int (x ||| y)) vr_145_30 rfl rfl (fun x1027 y1027 e1027 f1027 => ?_)
          cases e1027
          cases f1027
          refine zLput vr_145_31 rfl (fun p1028 k1028 e1028 t1028 g1028 => ?_)
          cases e1028
          obtain ⟨d2, f2⟩ := d1.putB g1028 (by first | exact or01 d1.or (Or.inr rfl) | exact or01 d1.or (Or.inl rfl))
          refine zSaload (m := 1) (k := 0) vr_145_34 rfl rfl rfl ?_
          refine zSdup vr_145_35 rfl ?_
          refine zLget vr_145_36 rfl (fun p1031 w1031 e1031 t1031 g1031 => ?_)
          cases e1031
          first | (rw [d2.at] at g1031; cases g1031) | (rw [d2.fl] at g1031; cases g1031) | skip
          refine zSp0 (pc' := 40) (st' := .int (1) :: _) vr_145_39 rfl rfl ?_
          refine zS2 (f := fun x y => .int (x + y)) vr_145_40 rfl rfl (fun x1033 y1033 e1033 f1033 => ?_)
          cases e1033
          cases f1033
          refine zLput vr_145_41 rfl (fun p1034 k1034 e1034 t1034 g1034 => ?_)
          cases e1034
          obtain ⟨d3, f3⟩ := d2.putA g1034
          refine zSaload (m := 1) (k := 0) vr_145_44 rfl rfl rfl ?_
          refine zLget vr_145_45 rfl (fun p1036 w1036 e1036 t1036 g1036 => ?_)
          cases e1036
          first | (rw [d3.fl] at g1036; cases g1036) | skip
          refine zSb1 (f := fun x => decide (x = 0)) (off := 7) (t := 55) vr_145_48 rfl rfl rfl (fun x1037 e1037 q1037 => ?_) (fun x1037 e1037 q1037 => ?_)
          · cases e1037
            have c1037 := of_decide_eq_true q1037
            refine zSiload (m := 1) (k := 2) vr_145_55 rfl rfl rfl (fun x1038 e1038 => ?_)
            cases e1038
            refine zSp0 (pc' := 58) (st' := .int (48) :: _) vr_145_56 rfl rfl ?_
            refine zS2 (f := fun x y => .int (x - y)) vr_145_58 rfl rfl (fun x1040 y1040 e1040 f1040 => ?_)
            cases e1040
            cases f1040
            refine zLiret vr_145_59 rfl (fun x1041 e1041 => ?_)
            cases e1041
            refine ⟨(f1.trans f2).trans f3, _, _, _, rfl, d3, fun z => by rw [z]; decide, fun z p hp e => ?_⟩
            obtain ⟨w1, w2⟩ := k1 p hp e
            first
              | (have nd : ¬ rI 48 57 (sg T L p) := fun y => isD_n c980 (by rw [w1]; exact sgM_D.mpr y)
                 exact Or.inl ⟨by rw [tkD_nd hm nd], by rw [z]; decide⟩)
              | (have yd : rI 48 57 (sg T L p) := sgM_D.mp (by rw [← w1]; exact isD_y c980)
                 have es : c1 = sg T L p := by rw [w1]; exact sgM_e yd
                 first
                   | exact Or.inl ⟨by rw [tkD_ge hm yd (by rw [← es]; exact c1005)], by rw [z]; decide⟩
                   | (obtain ⟨t1, t2⟩ := tkD_ok hm yd (by rw [← es]; exact c1005)
                      first
                        | exact absurd (by rw [z]; decide) c1037
                        | exact Or.inr ⟨by rw [t1]; exact t2, by rw [z]; decide, by rw [t1, es], by rw [t1, w2, ofNat_succ1]⟩))
          · cases e1037
            have c1037 := ndc q1037
            refine zSp0 (pc' := 52) (st' := .int (0) :: _) vr_145_51 rfl rfl ?_
            refine zSgo (t := 59) vr_145_52 rfl rfl ?_
            refine zLiret vr_145_59 rfl (fun x1044 e1044 => ?_)
            cases e1044
            refine ⟨(f1.trans f2).trans f3, _, _, _, rfl, d3, fun z => by rw [z]; decide, fun z p hp e => ?_⟩
            obtain ⟨w1, w2⟩ := k1 p hp e
            first
              | (have nd : ¬ rI 48 57 (sg T L p) := fun y => isD_n c980 (by rw [w1]; exact sgM_D.mpr y)
                 exact Or.inl ⟨by rw [tkD_nd hm nd], by rw [z]; decide⟩)
              | (have yd : rI 48 57 (sg T L p) := sgM_D.mp (by rw [← w1]; exact isD_y c980)
                 have es : c1 = sg T L p := by rw [w1]; exact sgM_e yd
                 first
                   | exact Or.inl ⟨by rw [tkD_ge hm yd (by rw [← es]; exact c1005)], by rw [z]; decide⟩
                   | (obtain ⟨t1, t2⟩ := tkD_ok hm yd (by rw [← es]; exact c1005)
                      first
                        | exact absurd (by rw [z]; decide) c1037
                        | exact Or.inr ⟨by rw [t1]; exact t2, by rw [z]; decide, by rw [t1, es], by rw [t1, w2, ofNat_succ1]⟩))
    · obtain ⟨-, z⟩ := q979
      cases z
  · obtain ⟨-, _, _, z, -⟩ := q973
    cases z
set_option maxRecDepth 20000 in
theorem C_mnl {T : Nat → Int32} {L s b : Nat} {bd : Int32} : ∀ (n k : Nat) (x a : Int32) (w : Value) (h : List zC) (u : Nat), k ≤ 4 → MB T L s b h a bd → zL zrx zi n 146 30 [(2, .int (Int32.ofNat k)), (1, .int x), (0, .ref 213), (3, w)] [] h u (fun o h2 _ => FM h h2 ∧ ∃ a2 bd2 v : Int32, o = .inl (some (.int v)) ∧ MB T L s b h2 a2 bd2 ∧ (bd = 1 → bd2 = 1) ∧ (bd = 0 → ∀ p, p ≤ L → a = Int32.ofNat p → ((nlF T L (4 - k) x p).2.2 = 0 → bd2 = 1) ∧ (¬ (nlF T L (4 - k) x p).2.2 = 0 → bd2 = 0 ∧ v = (nlF T L (4 - k) x p).1 ∧ a2 = Int32.ofNat (nlF T L (4 - k) x p).2.1)))
  | 0, _, _, _, _, _, _, _, _ => trivial
  | n + 1, k, x, a, w, h, u, k4, d => by
    have l60 := d.sb.l60
    have kk := toNat_ofNat (m := k) (by omega)
    have z4 : (4 : Int32).toInt = 4 := rfl
    have z3 : (3 : Int32).toInt = 3 := rfl
    refine zLp vr_146_30 rfl rfl ?_
    refine zLget vr_146_31 rfl (fun p1045 w1045 e1045 t1045 g1045 => ?_)
    cases e1045
    first | (rw [d.at] at g1045; cases g1045) | (rw [d.fed] at g1045; cases g1045) | (rw [d.fl] at g1045; cases g1045) | skip
    refine zSaload (m := 1) (k := 0) vr_146_34 rfl rfl rfl ?_
    refine zLget vr_146_35 rfl (fun p1047 w1047 e1047 t1047 g1047 => ?_)
    cases e1047
    first | (rw [d.at] at g1047; cases g1047) | (rw [d.fed] at g1047; cases g1047) | (rw [d.fl] at g1047; cases g1047) | skip
    refine zScall vr_146_38 rfl rfl rfl (fun m1048 _ => C_slen _ _ _ _ d.sb) (fun v1048 h1048 u1048 q1048 => ?_) (fun E1048 h1048 u1048 q1048 => ?_)
    · obtain ⟨eh1048, z1048⟩ := q1048
      replace eh1048 := eh1048.symm
      subst eh1048
      cases z1048
      show zL zrx zi _ 146 41 [(2, _), (1, _), (0, _), (3, _)] [_, _] _ _ _
      refine zSb2 (f := fun x y => decide (y ≤ x)) (off := 61) (t := 102) vr_146_41 rfl rfl rfl (fun x1049 y1049 e1049 f1049 q1049 => ?_) (fun x1049 y1049 e1049 f1049 q1049 => ?_)
      · cases e1049
        cases f1049
        have c1049 := of_decide_eq_true q1049
        refine zSaload (m := 1) (k := 0) vr_146_102 rfl rfl rfl ?_
        refine zSdup vr_146_103 rfl ?_
        refine zLget vr_146_104 rfl (fun p1052 w1052 e1052 t1052 g1052 => ?_)
        cases e1052
        first | (rw [d.at] at g1052; cases g1052) | (rw [d.fed] at g1052; cases g1052) | (rw [d.fl] at g1052; cases g1052) | skip
        refine zSiload (m := 1) (k := 2) vr_146_107 rfl rfl rfl (fun x1053 e1053 => ?_)
        cases e1053
        refine zSp0 (pc' := 109) (st' := .int (3) :: _) vr_146_108 rfl rfl ?_
        refine zSb2 (f := fun x y => decide (x ≤ y)) (off := 7) (t := 116) vr_146_109 rfl rfl rfl (fun x1055 y1055 e1055 f1055 q1055 => ?_) (fun x1055 y1055 e1055 f1055 q1055 => ?_)
        · cases e1055
          cases f1055
          have c1055 := of_decide_eq_true q1055
          refine zSp0 (pc' := 117) (st' := .int (0) :: _) vr_146_116 rfl rfl ?_
          refine zS2 (f := fun x y => .int (x ||| y)) vr_146_117 rfl rfl (fun x1057 y1057 e1057 f1057 => ?_)
          cases e1057
          cases f1057
          refine zLput vr_146_118 rfl (fun p1058 k1058 e1058 t1058 g1058 => ?_)
          cases e1058
          obtain ⟨d1, f1⟩ := d.putB g1058 (by first | exact or01 d.or (Or.inr rfl) | exact or01 d.or (Or.inl rfl))
          refine zSiload (m := 1) (k := 1) vr_146_121 rfl rfl rfl (fun x1059 e1059 => ?_)
          cases e1059
          refine zLiret vr_146_122 rfl (fun x1060 e1060 => ?_)
          cases e1060
          refine ⟨f1, _, _, _, rfl, d1, fun z => by rw [z]; decide, fun z p hp e => ?_⟩
          subst e
          have kp := toNat_ofNat (m := p) (by omega)
          have cl := on_lt (a := L) (b := p) (by omega) (by omega)
          have stop : (nlF T L (4 - k) x p) = (x, p, 4 - k) := by
            by_cases k4' : k = 4
            · subst k4'
              rfl
            · rw [show 4 - k = (4 - (k + 1)) + 1 by omega]
              refine nlF_n (fun y => ?_)
              first
                | (have y2 := c1049
                   rw [cl.2] at y2
                   omega)
                | (refine isD_n c1040 ?_
                   rw [kp.1]
                   exact y.2)
                | (have y2 := c733
                   rw [i32_le, kk.2, z4] at y2
                   omega)
          rw [stop]
          dsimp only
          first
            | (have k3 : k ≤ 3 := by
                 have y := c1055
                 rw [i32_le, kk.2, z3] at y
                 omega
               exact ⟨fun y => by omega, fun _ => ⟨by rw [z]; decide, rfl, rfl⟩⟩)
            | (have k3 : k = 4 := by
                 have y := c1055
                 rw [i32_le, kk.2, z3] at y
                 omega
               exact ⟨fun _ => by rw [z]; decide, fun y => absurd (by omega) y⟩)
        · cases e1055
          cases f1055
          have c1055 := ndc q1055
          refine zSp0 (pc' := 113) (st' := .int (1) :: _) vr_146_112 rfl rfl ?_
          refine zSgo (t := 117) vr_146_113 rfl rfl ?_
          refine zS2 (f := fun x y => .int (x ||| y)) vr_146_117 rfl rfl (fun x1063 y1063 e1063 f1063 => ?_)
          cases e1063
          cases f1063
          refine zLput vr_146_118 rfl (fun p1064 k1064 e1064 t1064 g1064 => ?_)
          cases e1064
          obtain ⟨d1, f1⟩ := d.putB g1064 (by first | exact or01 d.or (Or.inr rfl) | exact or01 d.or (Or.inl rfl))
          refine zSiload (m := 1) (k := 1) vr_146_121 rfl rfl rfl (fun x1065 e1065 => ?_)
          cases e1065
          refine zLiret vr_146_122 rfl (fun x1066 e1066 => ?_)
          cases e1066
          refine ⟨f1, _, _, _, rfl, d1, fun z => by rw [z]; decide, fun z p hp e => ?_⟩
          subst e
          have kp := toNat_ofNat (m := p) (by omega)
          have cl := on_lt (a := L) (b := p) (by omega) (by omega)
          have stop : (nlF T L (4 - k) x p) = (x, p, 4 - k) := by
            by_cases k4' : k = 4
            · subst k4'
              rfl
            · rw [show 4 - k = (4 - (k + 1)) + 1 by omega]
              refine nlF_n (fun y => ?_)
              first
                | (have y2 := c1049
                   rw [cl.2] at y2
                   omega)
                | (refine isD_n c1040 ?_
                   rw [kp.1]
                   exact y.2)
                | (have y2 := c733
                   rw [i32_le, kk.2, z4] at y2
                   omega)
          rw [stop]
          dsimp only
          first
            | (have k3 : k ≤ 3 := by
                 have y := c1055
                 rw [i32_le, kk.2, z3] at y
                 omega
               exact ⟨fun y => by omega, fun _ => ⟨by rw [z]; decide, rfl, rfl⟩⟩)
            | (have k3 : k = 4 := by
                 have y := c1055
                 rw [i32_le, kk.2, z3] at y
                 omega
               exact ⟨fun _ => by rw [z]; decide, fun y => absurd (by omega) y⟩)
      · cases e1049
        cases f1049
        have c1049 := ndc q1049
        refine zSaload (m := 1) (k := 0) vr_146_44 rfl rfl rfl ?_
        refine zLget vr_146_45 rfl (fun p1068 w1068 e1068 t1068 g1068 => ?_)
        cases e1068
        first | (rw [d.at] at g1068; cases g1068) | (rw [d.fed] at g1068; cases g1068) | (rw [d.fl] at g1068; cases g1068) | skip
        refine zSaload (m := 1) (k := 0) vr_146_48 rfl rfl rfl ?_
        refine zLget vr_146_49 rfl (fun p1070 w1070 e1070 t1070 g1070 => ?_)
        cases e1070
        first | (rw [d.at] at g1070; cases g1070) | (rw [d.fed] at g1070; cases g1070) | (rw [d.fl] at g1070; cases g1070) | skip
        refine zScall vr_146_52 rfl rfl rfl (fun m1071 _ => C_charAt _ _ _ _ _ d.sb) (fun v1071 h1071 u1071 q1071 => ?_) (fun E1071 h1071 u1071 q1071 => ?_)
        · obtain ⟨eh1071, x1071, i1071, n1071, l1071, z1071⟩ := q1071
          replace eh1071 := eh1071.symm
          subst eh1071
          cases z1071
          cases i1071
          show zL zrx zi _ 146 55 [(2, _), (1, _), (0, _), (3, _)] [_] _ _ _
          refine zScall vr_146_55 rfl rfl rfl (fun m1072 _ => C_isD _ _ _ _) (fun v1072 h1072 u1072 q1072 => ?_) (fun E1072 h1072 u1072 q1072 => ?_)
          · obtain ⟨eh1072, z1072⟩ := q1072
            replace eh1072 := eh1072.symm
            subst eh1072
            cases z1072
            show zL zrx zi _ 146 58 [(2, _), (1, _), (0, _), (3, _)] [_] _ _ _
            refine zSb1 (f := fun x => decide (x = 0)) (off := 44) (t := 102) vr_146_58 rfl rfl rfl (fun x1073 e1073 q1073 => ?_) (fun x1073 e1073 q1073 => ?_)
            · cases e1073
              have c1073 := of_decide_eq_true q1073
              refine zSaload (m := 1) (k := 0) vr_146_102 rfl rfl rfl ?_
              refine zSdup vr_146_103 rfl ?_
              refine zLget vr_146_104 rfl (fun p1076 w1076 e1076 t1076 g1076 => ?_)
              cases e1076
              first | (rw [d.at] at g1076; cases g1076) | (rw [d.fed] at g1076; cases g1076) | (rw [d.fl] at g1076; cases g1076) | skip
              refine zSiload (m := 1) (k := 2) vr_146_107 rfl rfl rfl (fun x1077 e1077 => ?_)
              cases e1077
              refine zSp0 (pc' := 109) (st' := .int (3) :: _) vr_146_108 rfl rfl ?_
              refine zSb2 (f := fun x y => decide (x ≤ y)) (off := 7) (t := 116) vr_146_109 rfl rfl rfl (fun x1079 y1079 e1079 f1079 q1079 => ?_) (fun x1079 y1079 e1079 f1079 q1079 => ?_)
              · cases e1079
                cases f1079
                have c1079 := of_decide_eq_true q1079
                refine zSp0 (pc' := 117) (st' := .int (0) :: _) vr_146_116 rfl rfl ?_
                refine zS2 (f := fun x y => .int (x ||| y)) vr_146_117 rfl rfl (fun x1081 y1081 e1081 f1081 => ?_)
                cases e1081
                cases f1081
                refine zLput vr_146_118 rfl (fun p1082 k1082 e1082 t1082 g1082 => ?_)
                cases e1082
                obtain ⟨d1, f1⟩ := d.putB g1082 (by first | exact or01 d.or (Or.inr rfl) | exact or01 d.or (Or.inl rfl))
                refine zSiload (m := 1) (k := 1) vr_146_121 rfl rfl rfl (fun x1083 e1083 => ?_)
                cases e1083
                refine zLiret vr_146_122 rfl (fun x1084 e1084 => ?_)
                cases e1084
                refine ⟨f1, _, _, _, rfl, d1, fun z => by rw [z]; decide, fun z p hp e => ?_⟩
                subst e
                have kp := toNat_ofNat (m := p) (by omega)
                have cl := on_lt (a := L) (b := p) (by omega) (by omega)
                have stop : (nlF T L (4 - k) x p) = (x, p, 4 - k) := by
                  by_cases k4' : k = 4
                  · subst k4'
                    rfl
                  · rw [show 4 - k = (4 - (k + 1)) + 1 by omega]
                    refine nlF_n (fun y => ?_)
                    first
                      | (have y2 := c1049
                         rw [cl.2] at y2
                         omega)
                      | (refine isD_n c1073 ?_
                         rw [kp.1]
                         exact y.2)
                      | (have y2 := c733
                         rw [i32_le, kk.2, z4] at y2
                         omega)
                rw [stop]
                dsimp only
                first
                  | (have k3 : k ≤ 3 := by
                       have y := c1079
                       rw [i32_le, kk.2, z3] at y
                       omega
                     exact ⟨fun y => by omega, fun _ => ⟨by rw [z]; decide, rfl, rfl⟩⟩)
                  | (have k3 : k = 4 := by
                       have y := c1079
                       rw [i32_le, kk.2, z3] at y
                       omega
                     exact ⟨fun _ => by rw [z]; decide, fun y => absurd (by omega) y⟩)
              · cases e1079
                cases f1079
                have c1079 := ndc q1079
                refine zSp0 (pc' := 113) (st' := .int (1) :: _) vr_146_112 rfl rfl ?_
                refine zSgo (t := 117) vr_146_113 rfl rfl ?_
                refine zS2 (f := fun x y => .int (x ||| y)) vr_146_117 rfl rfl (fun x1087 y1087 e1087 f1087 => ?_)
                cases e1087
                cases f1087
                refine zLput vr_146_118 rfl (fun p1088 k1088 e1088 t1088 g1088 => ?_)
                cases e1088
                obtain ⟨d1, f1⟩ := d.putB g1088 (by first | exact or01 d.or (Or.inr rfl) | exact or01 d.or (Or.inl rfl))
                refine zSiload (m := 1) (k := 1) vr_146_121 rfl rfl rfl (fun x1089 e1089 => ?_)
                cases e1089
                refine zLiret vr_146_122 rfl (fun x1090 e1090 => ?_)
                cases e1090
                refine ⟨f1, _, _, _, rfl, d1, fun z => by rw [z]; decide, fun z p hp e => ?_⟩
                subst e
                have kp := toNat_ofNat (m := p) (by omega)
                have cl := on_lt (a := L) (b := p) (by omega) (by omega)
                have stop : (nlF T L (4 - k) x p) = (x, p, 4 - k) := by
                  by_cases k4' : k = 4
                  · subst k4'
                    rfl
                  · rw [show 4 - k = (4 - (k + 1)) + 1 by omega]
                    refine nlF_n (fun y => ?_)
                    first
                      | (have y2 := c1049
                         rw [cl.2] at y2
                         omega)
                      | (refine isD_n c1073 ?_
                         rw [kp.1]
                         exact y.2)
                      | (have y2 := c733
                         rw [i32_le, kk.2, z4] at y2
                         omega)
                rw [stop]
                dsimp only
                first
                  | (have k3 : k ≤ 3 := by
                       have y := c1079
                       rw [i32_le, kk.2, z3] at y
                       omega
                     exact ⟨fun y => by omega, fun _ => ⟨by rw [z]; decide, rfl, rfl⟩⟩)
                  | (have k3 : k = 4 := by
                       have y := c1079
                       rw [i32_le, kk.2, z3] at y
                       omega
                     exact ⟨fun _ => by rw [z]; decide, fun y => absurd (by omega) y⟩)
            · cases e1073
              have c1073 := ndc q1073
              refine zSiload (m := 1) (k := 2) vr_146_61 rfl rfl rfl (fun x1091 e1091 => ?_)
              cases e1091
              refine zSp0 (pc' := 63) (st' := .int (4) :: _) vr_146_62 rfl rfl ?_
              refine zSb2 (f := fun x y => decide (y ≤ x)) (off := 39) (t := 102) vr_146_63 rfl rfl rfl (fun x1093 y1093 e1093 f1093 q1093 => ?_) (fun x1093 y1093 e1093 f1093 q1093 => ?_)
              · cases e1093
                cases f1093
                have c1093 := of_decide_eq_true q1093
                refine zSaload (m := 1) (k := 0) vr_146_102 rfl rfl rfl ?_
                refine zSdup vr_146_103 rfl ?_
                refine zLget vr_146_104 rfl (fun p1096 w1096 e1096 t1096 g1096 => ?_)
                cases e1096
                first | (rw [d.at] at g1096; cases g1096) | (rw [d.fed] at g1096; cases g1096) | (rw [d.fl] at g1096; cases g1096) | skip
                refine zSiload (m := 1) (k := 2) vr_146_107 rfl rfl rfl (fun x1097 e1097 => ?_)
                cases e1097
                refine zSp0 (pc' := 109) (st' := .int (3) :: _) vr_146_108 rfl rfl ?_
                refine zSb2 (f := fun x y => decide (x ≤ y)) (off := 7) (t := 116) vr_146_109 rfl rfl rfl (fun x1099 y1099 e1099 f1099 q1099 => ?_) (fun x1099 y1099 e1099 f1099 q1099 => ?_)
                · cases e1099
                  cases f1099
                  have c1099 := of_decide_eq_true q1099
                  refine zSp0 (pc' := 117) (st' := .int (0) :: _) vr_146_116 rfl rfl ?_
                  refine zS2 (f := fun x y => .int (x ||| y)) vr_146_117 rfl rfl (fun x1101 y1101 e1101 f1101 => ?_)
                  cases e1101
                  cases f1101
                  refine zLput vr_146_118 rfl (fun p1102 k1102 e1102 t1102 g1102 => ?_)
                  cases e1102
                  obtain ⟨d1, f1⟩ := d.putB g1102 (by first | exact or01 d.or (Or.inr rfl) | exact or01 d.or (Or.inl rfl))
                  refine zSiload (m := 1) (k := 1) vr_146_121 rfl rfl rfl (fun x1103 e1103 => ?_)
                  cases e1103
                  refine zLiret vr_146_122 rfl (fun x1104 e1104 => ?_)
                  cases e1104
                  refine ⟨f1, _, _, _, rfl, d1, fun z => by rw [z]; decide, fun z p hp e => ?_⟩
                  subst e
                  have kp := toNat_ofNat (m := p) (by omega)
                  have cl := on_lt (a := L) (b := p) (by omega) (by omega)
                  have stop : (nlF T L (4 - k) x p) = (x, p, 4 - k) := by
                    by_cases k4' : k = 4
                    · subst k4'
                      rfl
                    · rw [show 4 - k = (4 - (k + 1)) + 1 by omega]
                      refine nlF_n (fun y => ?_)
                      first
                        | (have y2 := c1049
                           rw [cl.2] at y2
                           omega)
                        | (refine isD_n c1073 ?_
                           rw [kp.1]
                           exact y.2)
                        | (have y2 := c1093
                           rw [i32_le, kk.2, z4] at y2
                           omega)
                  rw [stop]
                  dsimp only
                  first
                    | (have k3 : k ≤ 3 := by
                         have y := c1099
                         rw [i32_le, kk.2, z3] at y
                         omega
                       exact ⟨fun y => by omega, fun _ => ⟨by rw [z]; decide, rfl, rfl⟩⟩)
                    | (have k3 : k = 4 := by
                         have y := c1099
                         rw [i32_le, kk.2, z3] at y
                         omega
                       exact ⟨fun _ => by rw [z]; decide, fun y => absurd (by omega) y⟩)
                · cases e1099
                  cases f1099
                  have c1099 := ndc q1099
                  refine zSp0 (pc' := 113) (st' := .int (1) :: _) vr_146_112 rfl rfl ?_
                  refine zSgo (t := 117) vr_146_113 rfl rfl ?_
                  refine zS2 (f := fun x y => .int (x ||| y)) vr_146_117 rfl rfl (fun x1107 y1107 e1107 f1107 => ?_)
                  cases e1107
                  cases f1107
                  refine zLput vr_146_118 rfl (fun p1108 k1108 e1108 t1108 g1108 => ?_)
                  cases e1108
                  obtain ⟨d1, f1⟩ := d.putB g1108 (by first | exact or01 d.or (Or.inr rfl) | exact or01 d.or (Or.inl rfl))
                  refine zSiload (m := 1) (k := 1) vr_146_121 rfl rfl rfl (fun x1109 e1109 => ?_)
                  cases e1109
                  refine zLiret vr_146_122 rfl (fun x1110 e1110 => ?_)
                  cases e1110
                  refine ⟨f1, _, _, _, rfl, d1, fun z => by rw [z]; decide, fun z p hp e => ?_⟩
                  subst e
                  have kp := toNat_ofNat (m := p) (by omega)
                  have cl := on_lt (a := L) (b := p) (by omega) (by omega)
                  have stop : (nlF T L (4 - k) x p) = (x, p, 4 - k) := by
                    by_cases k4' : k = 4
                    · subst k4'
                      rfl
                    · rw [show 4 - k = (4 - (k + 1)) + 1 by omega]
                      refine nlF_n (fun y => ?_)
                      first
                        | (have y2 := c1049
                           rw [cl.2] at y2
                           omega)
                        | (refine isD_n c1073 ?_
                           rw [kp.1]
                           exact y.2)
                        | (have y2 := c1093
                           rw [i32_le, kk.2, z4] at y2
                           omega)
                  rw [stop]
                  dsimp only
                  first
                    | (have k3 : k ≤ 3 := by
                         have y := c1099
                         rw [i32_le, kk.2, z3] at y
                         omega
                       exact ⟨fun y => by omega, fun _ => ⟨by rw [z]; decide, rfl, rfl⟩⟩)
                    | (have k3 : k = 4 := by
                         have y := c1099
                         rw [i32_le, kk.2, z3] at y
                         omega
                       exact ⟨fun _ => by rw [z]; decide, fun y => absurd (by omega) y⟩)
              · cases e1093
                cases f1093
                have c1093 := ndc q1093
                have k3 : k < 4 := by
                  have y := c1093
                  rw [i32_le, kk.2, z4] at y
                  omega
                have e4 : 4 - k = (4 - (k + 1)) + 1 := by omega
                refine zSp0 (pc' := 68) (st' := .int (10) :: _) vr_146_66 rfl rfl ?_
                refine zSiload (m := 1) (k := 1) vr_146_68 rfl rfl rfl (fun x1112 e1112 => ?_)
                cases e1112
                refine zS2 (f := fun x y => .int (x * y)) vr_146_69 rfl rfl (fun x1113 y1113 e1113 f1113 => ?_)
                cases e1113
                cases f1113
                refine zSaload (m := 1) (k := 0) vr_146_70 rfl rfl rfl ?_
                refine zLget vr_146_71 rfl (fun p1115 w1115 e1115 t1115 g1115 => ?_)
                cases e1115
                first | (rw [d.at] at g1115; cases g1115) | (rw [d.fed] at g1115; cases g1115) | (rw [d.fl] at g1115; cases g1115) | skip
                refine zSaload (m := 1) (k := 0) vr_146_74 rfl rfl rfl ?_
                refine zLget vr_146_75 rfl (fun p1117 w1117 e1117 t1117 g1117 => ?_)
                cases e1117
                first | (rw [d.at] at g1117; cases g1117) | (rw [d.fed] at g1117; cases g1117) | (rw [d.fl] at g1117; cases g1117) | skip
                refine zScall vr_146_78 rfl rfl rfl (fun m1118 _ => C_charAt _ _ _ _ _ d.sb) (fun v1118 h1118 u1118 q1118 => ?_) (fun E1118 h1118 u1118 q1118 => ?_)
                · obtain ⟨eh1118, x1118, i1118, n1118, l1118, z1118⟩ := q1118
                  replace eh1118 := eh1118.symm
                  subst eh1118
                  cases z1118
                  cases i1118
                  show zL zrx zi _ 146 81 [(2, _), (1, _), (0, _), (3, _)] [_, _] _ _ _
                  refine zS2 (f := fun x y => .int (x + y)) vr_146_81 rfl rfl (fun x1119 y1119 e1119 f1119 => ?_)
                  cases e1119
                  cases f1119
                  refine zSp0 (pc' := 84) (st' := .int (48) :: _) vr_146_82 rfl rfl ?_
                  refine zS2 (f := fun x y => .int (x - y)) vr_146_84 rfl rfl (fun x1121 y1121 e1121 f1121 => ?_)
                  cases e1121
                  cases f1121
                  refine zSistore (m := 1) (k := 1) vr_146_85 rfl rfl (fun x1122 e1122 => ?_)
                  cases e1122
                  show zL zrx zi _ 146 86 [(1, _), (2, _), (0, _), (3, _)] [] _ _ _
                  refine zSaload (m := 1) (k := 0) vr_146_86 rfl rfl rfl ?_
                  refine zSdup vr_146_87 rfl ?_
                  refine zLget vr_146_88 rfl (fun p1125 w1125 e1125 t1125 g1125 => ?_)
                  cases e1125
                  first | (rw [d.at] at g1125; cases g1125) | (rw [d.fed] at g1125; cases g1125) | (rw [d.fl] at g1125; cases g1125) | skip
                  refine zSp0 (pc' := 92) (st' := .int (1) :: _) vr_146_91 rfl rfl ?_
                  refine zS2 (f := fun x y => .int (x + y)) vr_146_92 rfl rfl (fun x1127 y1127 e1127 f1127 => ?_)
                  cases e1127
                  cases f1127
                  refine zLput vr_146_93 rfl (fun p1128 k1128 e1128 t1128 g1128 => ?_)
                  cases e1128
                  obtain ⟨d1, f1⟩ := d.putA g1128
                  refine zSiinc vr_146_96 rfl rfl (fun x1129 e1129 => ?_)
                  cases e1129
                  show zL zrx zi _ 146 99 [(2, _), (1, _), (0, _), (3, _)] [] _ _ _
                  refine zSgo (t := 30) vr_146_99 rfl rfl ?_
                  rw [ofNat_succ]
                  refine zL_K _ _ _ _ _ _ _ _ _ (zL_pm _ _ _ [(2, _), (1, _), (0, _), (3, _)] _ _ _ _ _ ⟨(List.forall_mem_cons.mpr ⟨List.mem_cons_self, (List.forall_mem_cons.mpr ⟨(List.mem_cons_of_mem _ List.mem_cons_self), (List.forall_mem_cons.mpr ⟨(List.mem_cons_of_mem _ (List.mem_cons_of_mem _ List.mem_cons_self)), (List.forall_mem_cons.mpr ⟨(List.mem_cons_of_mem _ (List.mem_cons_of_mem _ (List.mem_cons_of_mem _ List.mem_cons_self))), (fun _ h => absurd h List.not_mem_nil)⟩)⟩)⟩)⟩), show ([2, 1, 0, 3] : List Nat).Nodup by decide⟩ (C_mnl n (k + 1) _ _ _ _ _ (by omega) d1)) (fun o h2 u2 q => ?_)
                  obtain ⟨f2, a2, bd2, v, q1, q2, q3, q4⟩ := q
                  refine ⟨f1.trans f2, a2, bd2, v, q1, q2, q3, fun z p hp e => ?_⟩
                  subst e
                  have kp := toNat_ofNat (m := p) (by omega)
                  have cl := on_lt (a := L) (b := p) (by omega) (by omega)
                  have hp2 : p < L := by
                    have y := c1049
                    rw [cl.2] at y
                    omega
                  have dg : rI 48 57 (T p) := by
                    have y := isD_y c1073
                    rw [kp.1] at y
                    exact y
                  have w := q4 z (p + 1) (by omega) (ofNat_succ1 p)
                  rw [e4, nlF_y ⟨hp2, dg⟩]
                  rw [kp.1] at w
                  exact w
                · obtain ⟨-, _, -, -, -, z⟩ := q1118
                  cases z
          · obtain ⟨-, z⟩ := q1072
            cases z
        · obtain ⟨-, _, -, -, -, z⟩ := q1071
          cases z
    · obtain ⟨-, z⟩ := q1048
      cases z
theorem C_mnu (n : Nat)  (h : List zC) (u : Nat) {T : Nat → Int32} {L s b : Nat} {a bd : Int32} (d : MB T L s b h a bd) : zL zrx zi n 146 0 [(0, .ref 213)] [] h u (fun o h2 _ => FM h h2 ∧ ∃ a2 bd2 v : Int32, o = .inl (some (.int v)) ∧ MB T L s b h2 a2 bd2 ∧ (bd = 1 → bd2 = 1) ∧ (bd = 0 → ∀ p, p ≤ L → a = Int32.ofNat p → (match nuS T L p with | none => bd2 = 1 | some y => bd2 = 0 ∧ v = y.1 ∧ a2 = Int32.ofNat y.2))) := by
  refine zSp0 (pc' := 1) (st' := .int (0) :: _) vr_146_0 rfl rfl ?_
  refine zSistore (m := 1) (k := 1) vr_146_1 rfl rfl (fun x1132 e1132 => ?_)
  cases e1132
  show zL zrx zi _ 146 2 [(1, _), (0, _)] [] _ _ _
  refine zSp0 (pc' := 3) (st' := .int (0) :: _) vr_146_2 rfl rfl ?_
  refine zSistore (m := 1) (k := 2) vr_146_3 rfl rfl (fun x1134 e1134 => ?_)
  cases e1134
  show zL zrx zi _ 146 4 [(2, _), (1, _), (0, _)] [] _ _ _
  refine zSaload (m := 1) (k := 0) vr_146_4 rfl rfl rfl ?_
  refine zScall vr_146_5 rfl rfl rfl (fun m1136 _ => C_msg _ _ _ _ d) (fun v1136 h1136 u1136 q1136 => ?_) (fun E1136 h1136 u1136 q1136 => ?_)
  · obtain ⟨f1, a2, c1, z1136, d1, k1⟩ := q1136
    cases z1136
    show zL zrx zi _ 146 8 [(2, _), (1, _), (0, _)] [_] _ _ _
    refine zSistore (m := 1) (k := 3) vr_146_8 rfl rfl (fun x1137 e1137 => ?_)
    cases e1137
    show zL zrx zi _ 146 9 [(3, _), (2, _), (1, _), (0, _)] [] _ _ _
    refine zSaload (m := 1) (k := 0) vr_146_9 rfl rfl rfl ?_
    refine zSdup vr_146_10 rfl ?_
    refine zLget vr_146_11 rfl (fun p1140 w1140 e1140 t1140 g1140 => ?_)
    cases e1140
    first | (rw [d1.fl] at g1140; cases g1140) | skip
    refine zSiload (m := 1) (k := 3) vr_146_14 rfl rfl rfl (fun x1141 e1141 => ?_)
    cases e1141
    refine zScall vr_146_15 rfl rfl rfl (fun m1142 _ => C_isD _ _ _ _) (fun v1142 h1142 u1142 q1142 => ?_) (fun E1142 h1142 u1142 q1142 => ?_)
    · obtain ⟨eh1142, z1142⟩ := q1142
      replace eh1142 := eh1142.symm
      subst eh1142
      cases z1142
      show zL zrx zi _ 146 18 [(3, _), (2, _), (1, _), (0, _)] [_, _, _] _ _ _
      refine zSb1 (f := fun x => decide (¬ x = 0)) (off := 7) (t := 25) vr_146_18 rfl rfl rfl (fun x1143 e1143 q1143 => ?_) (fun x1143 e1143 q1143 => ?_)
      · cases e1143
        have c1143 := of_decide_eq_true q1143
        refine zSp0 (pc' := 26) (st' := .int (0) :: _) vr_146_25 rfl rfl ?_
        refine zS2 (f := fun x y => .int (x ||| y)) vr_146_26 rfl rfl (fun x1145 y1145 e1145 f1145 => ?_)
        cases e1145
        cases f1145
        refine zLput vr_146_27 rfl (fun p1146 k1146 e1146 t1146 g1146 => ?_)
        cases e1146
        obtain ⟨d2, f2⟩ := d1.putB g1146 (by first | exact or01 d1.or (Or.inr rfl) | exact or01 d1.or (Or.inl rfl))
        refine zL_K _ _ _ _ _ _ _ _ _ (zL_pm _ _ _ [(2, _), (1, _), (0, _), (3, _)] _ _ _ _ _ ⟨(List.forall_mem_cons.mpr ⟨(List.mem_cons_of_mem _ (List.mem_cons_of_mem _ (List.mem_cons_of_mem _ List.mem_cons_self))), (List.forall_mem_cons.mpr ⟨List.mem_cons_self, (List.forall_mem_cons.mpr ⟨(List.mem_cons_of_mem _ List.mem_cons_self), (List.forall_mem_cons.mpr ⟨(List.mem_cons_of_mem _ (List.mem_cons_of_mem _ List.mem_cons_self)), (fun _ h => absurd h List.not_mem_nil)⟩)⟩)⟩)⟩), show ([2, 1, 0, 3] : List Nat).Nodup by decide⟩ (C_mnl _ 0 _ _ _ _ _ (by omega) d2)) (fun o h2 u2 q => ?_)
        obtain ⟨f3, a3, bd3, v, q1, q2, q3, q4⟩ := q
        refine ⟨(f1.trans f2).trans f3, a3, bd3, v, q1, q2, fun z => q3 (by rw [z]; decide), fun z p hp e => ?_⟩
        obtain ⟨w1, w2⟩ := k1 p hp e
        unfold nuS
        first
          | (have yd : rI 48 57 (sg T L p) := sgM_D.mp (by rw [← w1]; exact isD_y c1143)
             rw [if_pos yd]
             obtain ⟨y1, y2⟩ := q4 (by rw [z]; decide) (skp T L p) (skp_b (T := T) _ p rfl hp).2.1 w2
             by_cases r : (nlF T L 4 0 (skp T L p)).2.2 = 0
             · rw [if_pos r]
               exact y1 r
             · rw [if_neg r]
               exact y2 r)
          | (have nd : ¬ rI 48 57 (sg T L p) := fun y => isD_n (Decidable.not_not.mp c1143) (by rw [w1]; exact sgM_D.mpr y)
             rw [if_neg nd]
             exact q3 (by rw [z]; decide))
      · cases e1143
        have c1143 := ndc q1143
        refine zSp0 (pc' := 22) (st' := .int (1) :: _) vr_146_21 rfl rfl ?_
        refine zSgo (t := 26) vr_146_22 rfl rfl ?_
        refine zS2 (f := fun x y => .int (x ||| y)) vr_146_26 rfl rfl (fun x1149 y1149 e1149 f1149 => ?_)
        cases e1149
        cases f1149
        refine zLput vr_146_27 rfl (fun p1150 k1150 e1150 t1150 g1150 => ?_)
        cases e1150
        obtain ⟨d2, f2⟩ := d1.putB g1150 (by first | exact or01 d1.or (Or.inr rfl) | exact or01 d1.or (Or.inl rfl))
        refine zL_K _ _ _ _ _ _ _ _ _ (zL_pm _ _ _ [(2, _), (1, _), (0, _), (3, _)] _ _ _ _ _ ⟨(List.forall_mem_cons.mpr ⟨(List.mem_cons_of_mem _ (List.mem_cons_of_mem _ (List.mem_cons_of_mem _ List.mem_cons_self))), (List.forall_mem_cons.mpr ⟨List.mem_cons_self, (List.forall_mem_cons.mpr ⟨(List.mem_cons_of_mem _ List.mem_cons_self), (List.forall_mem_cons.mpr ⟨(List.mem_cons_of_mem _ (List.mem_cons_of_mem _ List.mem_cons_self)), (fun _ h => absurd h List.not_mem_nil)⟩)⟩)⟩)⟩), show ([2, 1, 0, 3] : List Nat).Nodup by decide⟩ (C_mnl _ 0 _ _ _ _ _ (by omega) d2)) (fun o h2 u2 q => ?_)
        obtain ⟨f3, a3, bd3, v, q1, q2, q3, q4⟩ := q
        refine ⟨(f1.trans f2).trans f3, a3, bd3, v, q1, q2, fun z => q3 (by rw [z]; decide), fun z p hp e => ?_⟩
        obtain ⟨w1, w2⟩ := k1 p hp e
        unfold nuS
        first
          | (have yd : rI 48 57 (sg T L p) := sgM_D.mp (by rw [← w1]; exact isD_y c1143)
             rw [if_pos yd]
             obtain ⟨y1, y2⟩ := q4 (by rw [z]; decide) (skp T L p) (skp_b (T := T) _ p rfl hp).2.1 w2
             by_cases r : (nlF T L 4 0 (skp T L p)).2.2 = 0
             · rw [if_pos r]
               exact y1 r
             · rw [if_neg r]
               exact y2 r)
          | (have nd : ¬ rI 48 57 (sg T L p) := fun y => isD_n (Decidable.not_not.mp c1143) (by rw [w1]; exact sgM_D.mpr y)
             rw [if_neg nd]
             exact q3 (by rw [z]; decide))
    · obtain ⟨-, z⟩ := q1142
      cases z
  · obtain ⟨-, _, _, z, -⟩ := q1136
    cases z
theorem C_mnm (n : Nat) (m : Int32) (h : List zC) (u : Nat) {T : Nat → Int32} {L s b : Nat} {a bd : Int32} (d : MB T L s b h a bd) : zL zrx zi n 147 0 [(0, .ref 213), (1, .int m)] [] h u (fun o h2 _ => FM h h2 ∧ ∃ a2 bd2 v : Int32, o = .inl (some (.int v)) ∧ MB T L s b h2 a2 bd2 ∧ (bd = 1 → bd2 = 1) ∧ (bd = 0 → ∀ p, p ≤ L → a = Int32.ofNat p → (match nuS T L p with | none => bd2 = 1 | some y => if m ≤ y.1 then bd2 = 1 else bd2 = 0 ∧ v = y.1 ∧ a2 = Int32.ofNat y.2))) := by
  refine zSaload (m := 1) (k := 0) vr_147_0 rfl rfl rfl ?_
  refine zScall vr_147_1 rfl rfl rfl (fun m1152 _ => C_mnu _ _ _ d) (fun v1152 h1152 u1152 q1152 => ?_) (fun E1152 h1152 u1152 q1152 => ?_)
  · obtain ⟨f1, a1, bd1, v1, z1152, d1, i1, k1⟩ := q1152
    cases z1152
    show zL zrx zi _ 147 4 [(0, _), (1, _)] [_] _ _ _
    refine zSistore (m := 1) (k := 2) vr_147_4 rfl rfl (fun x1153 e1153 => ?_)
    cases e1153
    show zL zrx zi _ 147 5 [(2, _), (0, _), (1, _)] [] _ _ _
    refine zSaload (m := 1) (k := 0) vr_147_5 rfl rfl rfl ?_
    refine zSdup vr_147_6 rfl ?_
    refine zLget vr_147_7 rfl (fun p1156 w1156 e1156 t1156 g1156 => ?_)
    cases e1156
    first | (rw [d1.fl] at g1156; cases g1156) | skip
    refine zSiload (m := 1) (k := 2) vr_147_10 rfl rfl rfl (fun x1157 e1157 => ?_)
    cases e1157
    refine zSiload (m := 1) (k := 1) vr_147_11 rfl rfl rfl (fun x1158 e1158 => ?_)
    cases e1158
    refine zSb2 (f := fun x y => decide (x < y)) (off := 7) (t := 19) vr_147_12 rfl rfl rfl (fun x1159 y1159 e1159 f1159 q1159 => ?_) (fun x1159 y1159 e1159 f1159 q1159 => ?_)
    · cases e1159
      cases f1159
      have c1159 := of_decide_eq_true q1159
      refine zSp0 (pc' := 20) (st' := .int (0) :: _) vr_147_19 rfl rfl ?_
      refine zS2 (f := fun x y => .int (x ||| y)) vr_147_20 rfl rfl (fun x1161 y1161 e1161 f1161 => ?_)
      cases e1161
      cases f1161
      refine zLput vr_147_21 rfl (fun p1162 k1162 e1162 t1162 g1162 => ?_)
      cases e1162
      obtain ⟨d2, f2⟩ := d1.putB g1162 (by first | exact or01 d1.or (Or.inr rfl) | exact or01 d1.or (Or.inl rfl))
      refine zSiload (m := 1) (k := 2) vr_147_24 rfl rfl rfl (fun x1163 e1163 => ?_)
      cases e1163
      refine zLiret vr_147_25 rfl (fun x1164 e1164 => ?_)
      cases e1164
      refine ⟨f1.trans f2, _, _, _, rfl, d2, fun z => by rw [i1 z]; decide, fun z p hp e => ?_⟩
      have w := k1 z p hp e
      cases en : nuS T L p with
      | none =>
        rw [en] at w
        dsimp only at w ⊢
        rw [w]
        decide
      | some y =>
        rw [en] at w
        dsimp only at w ⊢
        obtain ⟨w1, w2, w3⟩ := w
        first
          | (rw [if_neg (Int32.not_le.mpr (by rw [← w2]; exact c1159))]
             exact ⟨by rw [w1]; decide, w2, w3⟩)
          | (rw [if_pos (Int32.not_lt.mp (by rw [← w2]; exact c1159))]
             rw [w1]
             decide)
    · cases e1159
      cases f1159
      have c1159 := ndc q1159
      refine zSp0 (pc' := 16) (st' := .int (1) :: _) vr_147_15 rfl rfl ?_
      refine zSgo (t := 20) vr_147_16 rfl rfl ?_
      refine zS2 (f := fun x y => .int (x ||| y)) vr_147_20 rfl rfl (fun x1167 y1167 e1167 f1167 => ?_)
      cases e1167
      cases f1167
      refine zLput vr_147_21 rfl (fun p1168 k1168 e1168 t1168 g1168 => ?_)
      cases e1168
      obtain ⟨d2, f2⟩ := d1.putB g1168 (by first | exact or01 d1.or (Or.inr rfl) | exact or01 d1.or (Or.inl rfl))
      refine zSiload (m := 1) (k := 2) vr_147_24 rfl rfl rfl (fun x1169 e1169 => ?_)
      cases e1169
      refine zLiret vr_147_25 rfl (fun x1170 e1170 => ?_)
      cases e1170
      refine ⟨f1.trans f2, _, _, _, rfl, d2, fun z => by rw [i1 z]; decide, fun z p hp e => ?_⟩
      have w := k1 z p hp e
      cases en : nuS T L p with
      | none =>
        rw [en] at w
        dsimp only at w ⊢
        rw [w]
        decide
      | some y =>
        rw [en] at w
        dsimp only at w ⊢
        obtain ⟨w1, w2, w3⟩ := w
        first
          | (rw [if_neg (Int32.not_le.mpr (by rw [← w2]; exact c1159))]
             exact ⟨by rw [w1]; decide, w2, w3⟩)
          | (rw [if_pos (Int32.not_lt.mp (by rw [← w2]; exact c1159))]
             rw [w1]
             decide)
  · obtain ⟨-, _, _, _, z, -⟩ := q1152
    cases z
set_option maxRecDepth 20000 in
theorem C_mcR {T : Nat → Int32} {L s b A AS AN p : Nat} {a : Int32} {F : Nat → Int32} {h : List zC} {sv : Int32} (hn : NE s b A AS AN) (d : MB T L s b h a 0) (az : AZ A AS AN h F) (hsv : ((sv = 0 ∧ ¬ sg T L p = 60 ∧ ¬ sg T L p = 62) ∨ (a = Int32.ofNat (skp T L p + 1) ∧ skp T L p + 1 ≤ L ∧ ((sv = 1 ∧ sg T L p = 60) ∨ (sv = 2 ∧ sg T L p = 62))))) (n u : Nat) : zL zrx zi n 149 86 [(2, .int sv), (0, .ref 213), (1, .ref A)] [] h u (fun o h2 _ => FA A AS AN h h2 ∧ o = .inl none ∧ ∃ a2 bd2 : Int32, MB T L s b h2 a2 bd2 ∧ GR T L A AS AN h2 a2 bd2 (sLim T L p F)) := by
  have lA := az.2.2.2.2.2.2.1
  have lS := az.2.2.2.2.2.2.2.1
  have lN := az.2.2.2.2.2.2.2.2.1
  refine zSaload (m := 1) (k := 0) vr_149_86 rfl rfl rfl ?_
  refine zSdup vr_149_87 rfl ?_
  refine zLget vr_149_88 rfl (fun p1173 w1173 e1173 t1173 g1173 => ?_)
  cases e1173
  first | (rw [d.fl] at g1173; cases g1173) | (rw [(az.1 (6, 8) (by decide))] at g1173; cases g1173) | skip
  refine zSiload (m := 1) (k := 2) vr_149_91 rfl rfl rfl (fun x1174 e1174 => ?_)
  cases e1174
  refine zSb1 (f := fun x => decide (x = 0)) (off := 11) (t := 103) vr_149_92 rfl rfl rfl (fun x1175 e1175 q1175 => ?_) (fun x1175 e1175 q1175 => ?_)
  · cases e1175
    have c1175 := of_decide_eq_true q1175
    refine zSp0 (pc' := 104) (st' := .int (1) :: _) vr_149_103 rfl rfl ?_
    refine zSgo (t := 108) vr_149_104 rfl rfl ?_
    refine zS2 (f := fun x y => .int (x ||| y)) vr_149_108 rfl rfl (fun x1178 y1178 e1178 f1178 => ?_)
    cases e1178
    cases f1178
    refine zLput vr_149_109 rfl (fun p1179 k1179 e1179 t1179 g1179 => ?_)
    cases e1179
    obtain ⟨d1, f1⟩ := d.putB g1179 (by first | exact or01 (Or.inl rfl) (Or.inr rfl) | exact or01 (Or.inl rfl) (Or.inl rfl))
    refine zSaload (m := 1) (k := 0) vr_149_112 rfl rfl rfl ?_
    refine zScall vr_149_113 rfl rfl rfl (fun m1181 _ => C_mnu _ _ _ d1) (fun v1181 h1181 u1181 q1181 => ?_) (fun E1181 h1181 u1181 q1181 => ?_)
    · obtain ⟨f2, a2, bd2, v2, z1181, d2, i2, k2⟩ := q1181
      cases z1181
      have i2' := i2
      show zL zrx zi _ 149 116 [(2, _), (0, _), (1, _)] [_] _ _ _
      have az2 := (az.fm f1).fm f2
      refine zSistore (m := 1) (k := 3) vr_149_116 rfl rfl (fun x1182 e1182 => ?_)
      cases e1182
      show zL zrx zi _ 149 117 [(3, _), (2, _), (0, _), (1, _)] [] _ _ _
      refine zSaload (m := 1) (k := 0) vr_149_117 rfl rfl rfl ?_
      refine zLget vr_149_118 rfl (fun p1184 w1184 e1184 t1184 g1184 => ?_)
      cases e1184
      first | (rw [d2.fl] at g1184; cases g1184) | (rw [(az2.1 (6, 8) (by decide))] at g1184; cases g1184) | (rw [az2.2.1] at g1184; cases g1184) | (rw [az2.2.2.1] at g1184; cases g1184) | skip
      refine zSb1 (f := fun x => decide (x = 0)) (off := 4) (t := 125) vr_149_121 rfl rfl rfl (fun x1185 e1185 q1185 => ?_) (fun x1185 e1185 q1185 => ?_)
      · cases e1185
        have c1185 := of_decide_eq_true q1185
        refine zSaload (m := 1) (k := 1) vr_149_125 rfl rfl rfl ?_
        refine zLget vr_149_126 rfl (fun p1187 w1187 e1187 t1187 g1187 => ?_)
        cases e1187
        first | (rw [d2.fl] at g1187; cases g1187) | (rw [(az2.1 (6, 8) (by decide))] at g1187; cases g1187) | (rw [az2.2.1] at g1187; cases g1187) | (rw [az2.2.2.1] at g1187; cases g1187) | skip
        refine zSaload (m := 1) (k := 1) vr_149_129 rfl rfl rfl ?_
        refine zLget vr_149_130 rfl (fun p1189 w1189 e1189 t1189 g1189 => ?_)
        cases e1189
        first | (rw [d2.fl] at g1189; cases g1189) | (rw [(az2.1 (6, 8) (by decide))] at g1189; cases g1189) | (rw [az2.2.1] at g1189; cases g1189) | (rw [az2.2.2.1] at g1189; cases g1189) | skip
        refine zSiload (m := 1) (k := 2) vr_149_133 rfl rfl rfl (fun x1190 e1190 => ?_)
        cases e1190
        refine zLiast vr_149_134 rfl (fun p1191 x1191 z1191 k1191 e1191 f1191 d1191 c1191 t1191 g1191 => ?_)
        cases e1191
        cases f1191
        cases d1191
        have az3 := az2
        have g3 := g1191
        have i2 : (F 8).toNatClampNeg < 2 ∧ (F 8 + 1 = 0 ∨ F 8 + 1 = 1 ∨ F 8 + 1 = 2) := by
          rcases az.2.2.2.2.2.1 with z | z | z
          · rw [z]; decide
          · rw [z]; decide
          · first
              | exact absurd z c0
              | exact absurd (i2 (by decide)) (by rw [c1185]; decide)
        have hsg : sv = sg2 (sg T L p) := by
          rcases hsv with ⟨z, z1, z2⟩ | ⟨-, -, ⟨z1, z2⟩ | ⟨z1, z2⟩⟩
          · rw [z]; unfold sg2; rw [if_neg z1, if_neg z2]
          · rw [z1, z2]; rfl
          · rw [z1, z2]; rfl
        replace az3 := az3.putS i2.1 hsg g3
        have e8 : upF F (9 + (F 8).toNatClampNeg) (sg T L p) 8 = F 8 := upF_ne (by omega)
        have l8 : gF k1191 A 6 = some (.int (F 8)) := by
          rw [← e8]
          exact az3.1 (6, 8) (by decide)
        refine zSaload (m := 1) (k := 1) vr_149_135 rfl rfl rfl ?_
        refine zLget vr_149_136 rfl (fun p1193 w1193 e1193 t1193 g1193 => ?_)
        cases e1193
        first | (rw [az3.2.2.1] at g1193; cases g1193) | (rw [l8] at g1193; cases g1193) | skip
        refine zSaload (m := 1) (k := 1) vr_149_139 rfl rfl rfl ?_
        refine zLget vr_149_140 rfl (fun p1195 w1195 e1195 t1195 g1195 => ?_)
        cases e1195
        first | (rw [az3.2.2.1] at g1195; cases g1195) | (rw [l8] at g1195; cases g1195) | skip
        refine zSiload (m := 1) (k := 3) vr_149_143 rfl rfl rfl (fun x1196 e1196 => ?_)
        cases e1196
        refine zLiast vr_149_144 rfl (fun p1197 x1197 z1197 k1197 e1197 f1197 d1197 c1197 t1197 g1197 => ?_)
        cases e1197
        cases f1197
        cases d1197
        have az4 := az3.putN i2.1 g1197
        have l9 : gF k1197 A 6 = some (.int (F 8)) := by
          rw [← e8, ← upF_ne (F := upF F (9 + (F 8).toNatClampNeg) (sg T L p)) (k := 11 + (F 8).toNatClampNeg) (x := v2) (show ¬ 8 = 11 + (F 8).toNatClampNeg by omega)]
          exact az4.1 (6, 8) (by decide)
        refine zSaload (m := 1) (k := 1) vr_149_145 rfl rfl rfl ?_
        refine zSdup vr_149_146 rfl ?_
        refine zLget vr_149_147 rfl (fun p1200 w1200 e1200 t1200 g1200 => ?_)
        cases e1200
        first | (rw [l9] at g1200; cases g1200) | skip
        refine zSp0 (pc' := 151) (st' := .int (1) :: _) vr_149_150 rfl rfl ?_
        refine zS2 (f := fun x y => .int (x + y)) vr_149_151 rfl rfl (fun x1202 y1202 e1202 f1202 => ?_)
        cases e1202
        cases f1202
        refine zLput vr_149_152 rfl (fun p1203 k1203 e1203 t1203 g1203 => ?_)
        cases e1203
        have az5 := az4.put (i := 6) (j := 8) (by decide) (fun _ => i2.2) g1203
        have d3 := ((d2.putC g1191 lS hn.2.1.1 hn.2.1.2).putC g1197 lN hn.2.2.1 hn.2.2.2).putC g1203 lA hn.1.1 hn.1.2
        have fa := ((((FA.fm f1).trans (FA.fm f2)).trans (FA.put g1191 (Or.inr (Or.inl rfl)))).trans (FA.put g1197 (Or.inr (Or.inr rfl)))).trans (FA.put g1203 (Or.inl ⟨rfl, by decide⟩))
        refine zSvoid vr_149_155 rfl ?_
        first
          | exact absurd (i2' (by decide)) (by rw [c1185]; decide)
          | (obtain ⟨ea, el, hs⟩ := hsv.resolve_left (fun y => c1175 y.1)
             have w := k2 (by decide) _ el ea
             have hg : sg T L p = 60 ∨ sg T L p = 62 := by
               rcases hs with ⟨-, z⟩ | ⟨-, z⟩
               · exact Or.inl z
               · exact Or.inr z
             cases en : nuS T L (skp T L p + 1) with
             | none =>
               rw [en] at w
               have w : bd2 = 1 := w
               exact absurd (c1185.symm.trans w) (by decide)
             | some y =>
               rw [en] at w
               obtain ⟨w1, w2, w3⟩ := w
               refine ⟨fa, rfl, _, _, d3, Or.inr ⟨c1185, y.2, adF F (sg T L p) y.1, ?_, (nuS_b el en).1, w3, ?_⟩⟩
               · unfold sLim
                 rw [if_pos hg, if_neg c0, en]
               · rw [← w2]
                 have az6 : AZ A AS AN k1203 (adL F (sg T L p) v2) := az5
                 unfold adF
                 by_cases z : sg T L p = 60
                 · rw [if_pos z]
                   exact az6.lm (Or.inr rfl)
                 · rw [if_neg z]
                   exact az6.lm (Or.inl rfl))
      · cases e1185
        have c1185 := ndc q1185
        refine zSvoid vr_149_124 rfl ?_
        refine ⟨(FA.fm f1).trans (FA.fm f2), rfl, _, _, d2, Or.inl ⟨d2.or.resolve_left c1185, ?_⟩⟩
        unfold sLim
        by_cases hg : sg T L p = 60 ∨ sg T L p = 62
        · rw [if_pos hg]
          first
            | (exfalso
               rcases hsv with ⟨-, n1, n2⟩ | ⟨-, -, ⟨z, -⟩ | ⟨z, -⟩⟩
               · rcases hg with y | y
                 · exact n1 y
                 · exact n2 y
               · have y := c1175
                 rw [z] at y
                 exact absurd y (by decide)
               · have y := c1175
                 rw [z] at y
                 exact absurd y (by decide))
            | rw [if_pos (Decidable.not_not.mp c0)]
            | (rw [if_neg c0]
               obtain ⟨ea, el, -⟩ := hsv.resolve_left (fun y => c1175 y.1)
               have w := k2 (by decide) _ el ea
               cases en : nuS T L (skp T L p + 1) with
               | none => rfl
               | some y =>
                 rw [en] at w
                 exact absurd w.1 c1185)
        · rw [if_neg hg]
    · obtain ⟨-, _, _, _, z, -⟩ := q1181
      cases z
  · cases e1175
    have c1175 := ndc q1175
    refine zSaload (m := 1) (k := 1) vr_149_95 rfl rfl rfl ?_
    refine zLget vr_149_96 rfl (fun p1207 w1207 e1207 t1207 g1207 => ?_)
    cases e1207
    first | (rw [d.fl] at g1207; cases g1207) | (rw [(az.1 (6, 8) (by decide))] at g1207; cases g1207) | skip
    refine zSp0 (pc' := 100) (st' := .int (2) :: _) vr_149_99 rfl rfl ?_
    refine zSb2 (f := fun x y => decide (¬ x = y)) (off := 7) (t := 107) vr_149_100 rfl rfl rfl (fun x1209 y1209 e1209 f1209 q1209 => ?_) (fun x1209 y1209 e1209 f1209 q1209 => ?_)
    · cases e1209
      cases f1209
      have c1209 := of_decide_eq_true q1209
      refine zSp0 (pc' := 108) (st' := .int (0) :: _) vr_149_107 rfl rfl ?_
      refine zS2 (f := fun x y => .int (x ||| y)) vr_149_108 rfl rfl (fun x1211 y1211 e1211 f1211 => ?_)
      cases e1211
      cases f1211
      refine zLput vr_149_109 rfl (fun p1212 k1212 e1212 t1212 g1212 => ?_)
      cases e1212
      obtain ⟨d1, f1⟩ := d.putB g1212 (by first | exact or01 (Or.inl rfl) (Or.inr rfl) | exact or01 (Or.inl rfl) (Or.inl rfl))
      refine zSaload (m := 1) (k := 0) vr_149_112 rfl rfl rfl ?_
      refine zScall vr_149_113 rfl rfl rfl (fun m1214 _ => C_mnu _ _ _ d1) (fun v1214 h1214 u1214 q1214 => ?_) (fun E1214 h1214 u1214 q1214 => ?_)
      · obtain ⟨f2, a2, bd2, v2, z1214, d2, i2, k2⟩ := q1214
        cases z1214
        have i2' := i2
        show zL zrx zi _ 149 116 [(2, _), (0, _), (1, _)] [_] _ _ _
        have az2 := (az.fm f1).fm f2
        refine zSistore (m := 1) (k := 3) vr_149_116 rfl rfl (fun x1215 e1215 => ?_)
        cases e1215
        show zL zrx zi _ 149 117 [(3, _), (2, _), (0, _), (1, _)] [] _ _ _
        refine zSaload (m := 1) (k := 0) vr_149_117 rfl rfl rfl ?_
        refine zLget vr_149_118 rfl (fun p1217 w1217 e1217 t1217 g1217 => ?_)
        cases e1217
        first | (rw [d2.fl] at g1217; cases g1217) | (rw [(az2.1 (6, 8) (by decide))] at g1217; cases g1217) | (rw [az2.2.1] at g1217; cases g1217) | (rw [az2.2.2.1] at g1217; cases g1217) | skip
        refine zSb1 (f := fun x => decide (x = 0)) (off := 4) (t := 125) vr_149_121 rfl rfl rfl (fun x1218 e1218 q1218 => ?_) (fun x1218 e1218 q1218 => ?_)
        · cases e1218
          have c1218 := of_decide_eq_true q1218
          refine zSaload (m := 1) (k := 1) vr_149_125 rfl rfl rfl ?_
          refine zLget vr_149_126 rfl (fun p1220 w1220 e1220 t1220 g1220 => ?_)
          cases e1220
          first | (rw [d2.fl] at g1220; cases g1220) | (rw [(az2.1 (6, 8) (by decide))] at g1220; cases g1220) | (rw [az2.2.1] at g1220; cases g1220) | (rw [az2.2.2.1] at g1220; cases g1220) | skip
          refine zSaload (m := 1) (k := 1) vr_149_129 rfl rfl rfl ?_
          refine zLget vr_149_130 rfl (fun p1222 w1222 e1222 t1222 g1222 => ?_)
          cases e1222
          first | (rw [d2.fl] at g1222; cases g1222) | (rw [(az2.1 (6, 8) (by decide))] at g1222; cases g1222) | (rw [az2.2.1] at g1222; cases g1222) | (rw [az2.2.2.1] at g1222; cases g1222) | skip
          refine zSiload (m := 1) (k := 2) vr_149_133 rfl rfl rfl (fun x1223 e1223 => ?_)
          cases e1223
          refine zLiast vr_149_134 rfl (fun p1224 x1224 z1224 k1224 e1224 f1224 d1224 c1224 t1224 g1224 => ?_)
          cases e1224
          cases f1224
          cases d1224
          have az3 := az2
          have g3 := g1224
          have i2 : (F 8).toNatClampNeg < 2 ∧ (F 8 + 1 = 0 ∨ F 8 + 1 = 1 ∨ F 8 + 1 = 2) := by
            rcases az.2.2.2.2.2.1 with z | z | z
            · rw [z]; decide
            · rw [z]; decide
            · first
                | exact absurd z c1209
                | exact absurd (i2 (by decide)) (by rw [c1218]; decide)
          have hsg : sv = sg2 (sg T L p) := by
            rcases hsv with ⟨z, z1, z2⟩ | ⟨-, -, ⟨z1, z2⟩ | ⟨z1, z2⟩⟩
            · rw [z]; unfold sg2; rw [if_neg z1, if_neg z2]
            · rw [z1, z2]; rfl
            · rw [z1, z2]; rfl
          replace az3 := az3.putS i2.1 hsg g3
          have e8 : upF F (9 + (F 8).toNatClampNeg) (sg T L p) 8 = F 8 := upF_ne (by omega)
          have l8 : gF k1224 A 6 = some (.int (F 8)) := by
            rw [← e8]
            exact az3.1 (6, 8) (by decide)
          refine zSaload (m := 1) (k := 1) vr_149_135 rfl rfl rfl ?_
          refine zLget vr_149_136 rfl (fun p1226 w1226 e1226 t1226 g1226 => ?_)
          cases e1226
          first | (rw [az3.2.2.1] at g1226; cases g1226) | (rw [l8] at g1226; cases g1226) | skip
          refine zSaload (m := 1) (k := 1) vr_149_139 rfl rfl rfl ?_
          refine zLget vr_149_140 rfl (fun p1228 w1228 e1228 t1228 g1228 => ?_)
          cases e1228
          first | (rw [az3.2.2.1] at g1228; cases g1228) | (rw [l8] at g1228; cases g1228) | skip
          refine zSiload (m := 1) (k := 3) vr_149_143 rfl rfl rfl (fun x1229 e1229 => ?_)
          cases e1229
          refine zLiast vr_149_144 rfl (fun p1230 x1230 z1230 k1230 e1230 f1230 d1230 c1230 t1230 g1230 => ?_)
          cases e1230
          cases f1230
          cases d1230
          have az4 := az3.putN i2.1 g1230
          have l9 : gF k1230 A 6 = some (.int (F 8)) := by
            rw [← e8, ← upF_ne (F := upF F (9 + (F 8).toNatClampNeg) (sg T L p)) (k := 11 + (F 8).toNatClampNeg) (x := v2) (show ¬ 8 = 11 + (F 8).toNatClampNeg by omega)]
            exact az4.1 (6, 8) (by decide)
          refine zSaload (m := 1) (k := 1) vr_149_145 rfl rfl rfl ?_
          refine zSdup vr_149_146 rfl ?_
          refine zLget vr_149_147 rfl (fun p1233 w1233 e1233 t1233 g1233 => ?_)
          cases e1233
          first | (rw [l9] at g1233; cases g1233) | skip
          refine zSp0 (pc' := 151) (st' := .int (1) :: _) vr_149_150 rfl rfl ?_
          refine zS2 (f := fun x y => .int (x + y)) vr_149_151 rfl rfl (fun x1235 y1235 e1235 f1235 => ?_)
          cases e1235
          cases f1235
          refine zLput vr_149_152 rfl (fun p1236 k1236 e1236 t1236 g1236 => ?_)
          cases e1236
          have az5 := az4.put (i := 6) (j := 8) (by decide) (fun _ => i2.2) g1236
          have d3 := ((d2.putC g1224 lS hn.2.1.1 hn.2.1.2).putC g1230 lN hn.2.2.1 hn.2.2.2).putC g1236 lA hn.1.1 hn.1.2
          have fa := ((((FA.fm f1).trans (FA.fm f2)).trans (FA.put g1224 (Or.inr (Or.inl rfl)))).trans (FA.put g1230 (Or.inr (Or.inr rfl)))).trans (FA.put g1236 (Or.inl ⟨rfl, by decide⟩))
          refine zSvoid vr_149_155 rfl ?_
          first
            | exact absurd (i2' (by decide)) (by rw [c1218]; decide)
            | (obtain ⟨ea, el, hs⟩ := hsv.resolve_left (fun y => c1175 y.1)
               have w := k2 (by decide) _ el ea
               have hg : sg T L p = 60 ∨ sg T L p = 62 := by
                 rcases hs with ⟨-, z⟩ | ⟨-, z⟩
                 · exact Or.inl z
                 · exact Or.inr z
               cases en : nuS T L (skp T L p + 1) with
               | none =>
                 rw [en] at w
                 have w : bd2 = 1 := w
                 exact absurd (c1218.symm.trans w) (by decide)
               | some y =>
                 rw [en] at w
                 obtain ⟨w1, w2, w3⟩ := w
                 refine ⟨fa, rfl, _, _, d3, Or.inr ⟨c1218, y.2, adF F (sg T L p) y.1, ?_, (nuS_b el en).1, w3, ?_⟩⟩
                 · unfold sLim
                   rw [if_pos hg, if_neg c1209, en]
                 · rw [← w2]
                   have az6 : AZ A AS AN k1236 (adL F (sg T L p) v2) := az5
                   unfold adF
                   by_cases z : sg T L p = 60
                   · rw [if_pos z]
                     exact az6.lm (Or.inr rfl)
                   · rw [if_neg z]
                     exact az6.lm (Or.inl rfl))
        · cases e1218
          have c1218 := ndc q1218
          refine zSvoid vr_149_124 rfl ?_
          refine ⟨(FA.fm f1).trans (FA.fm f2), rfl, _, _, d2, Or.inl ⟨d2.or.resolve_left c1218, ?_⟩⟩
          unfold sLim
          by_cases hg : sg T L p = 60 ∨ sg T L p = 62
          · rw [if_pos hg]
            first
              | (exfalso
                 rcases hsv with ⟨-, n1, n2⟩ | ⟨-, -, ⟨z, -⟩ | ⟨z, -⟩⟩
                 · rcases hg with y | y
                   · exact n1 y
                   · exact n2 y
                 · have y := c1175
                   rw [z] at y
                   exact absurd y (by decide)
                 · have y := c1175
                   rw [z] at y
                   exact absurd y (by decide))
              | rw [if_pos (Decidable.not_not.mp c1209)]
              | (rw [if_neg c1209]
                 obtain ⟨ea, el, -⟩ := hsv.resolve_left (fun y => c1175 y.1)
                 have w := k2 (by decide) _ el ea
                 cases en : nuS T L (skp T L p + 1) with
                 | none => rfl
                 | some y =>
                   rw [en] at w
                   exact absurd w.1 c1218)
          · rw [if_neg hg]
      · obtain ⟨-, _, _, _, z, -⟩ := q1214
        cases z
    · cases e1209
      cases f1209
      have c1209 := ndc q1209
      refine zSp0 (pc' := 104) (st' := .int (1) :: _) vr_149_103 rfl rfl ?_
      refine zSgo (t := 108) vr_149_104 rfl rfl ?_
      refine zS2 (f := fun x y => .int (x ||| y)) vr_149_108 rfl rfl (fun x1241 y1241 e1241 f1241 => ?_)
      cases e1241
      cases f1241
      refine zLput vr_149_109 rfl (fun p1242 k1242 e1242 t1242 g1242 => ?_)
      cases e1242
      obtain ⟨d1, f1⟩ := d.putB g1242 (by first | exact or01 (Or.inl rfl) (Or.inr rfl) | exact or01 (Or.inl rfl) (Or.inl rfl))
      refine zSaload (m := 1) (k := 0) vr_149_112 rfl rfl rfl ?_
      refine zScall vr_149_113 rfl rfl rfl (fun m1244 _ => C_mnu _ _ _ d1) (fun v1244 h1244 u1244 q1244 => ?_) (fun E1244 h1244 u1244 q1244 => ?_)
      · obtain ⟨f2, a2, bd2, v2, z1244, d2, i2, k2⟩ := q1244
        cases z1244
        have i2' := i2
        show zL zrx zi _ 149 116 [(2, _), (0, _), (1, _)] [_] _ _ _
        have az2 := (az.fm f1).fm f2
        refine zSistore (m := 1) (k := 3) vr_149_116 rfl rfl (fun x1245 e1245 => ?_)
        cases e1245
        show zL zrx zi _ 149 117 [(3, _), (2, _), (0, _), (1, _)] [] _ _ _
        refine zSaload (m := 1) (k := 0) vr_149_117 rfl rfl rfl ?_
        refine zLget vr_149_118 rfl (fun p1247 w1247 e1247 t1247 g1247 => ?_)
        cases e1247
        first | (rw [d2.fl] at g1247; cases g1247) | (rw [(az2.1 (6, 8) (by decide))] at g1247; cases g1247) | (rw [az2.2.1] at g1247; cases g1247) | (rw [az2.2.2.1] at g1247; cases g1247) | skip
        refine zSb1 (f := fun x => decide (x = 0)) (off := 4) (t := 125) vr_149_121 rfl rfl rfl (fun x1248 e1248 q1248 => ?_) (fun x1248 e1248 q1248 => ?_)
        · cases e1248
          have c1248 := of_decide_eq_true q1248
          refine zSaload (m := 1) (k := 1) vr_149_125 rfl rfl rfl ?_
          refine zLget vr_149_126 rfl (fun p1250 w1250 e1250 t1250 g1250 => ?_)
          cases e1250
          first | (rw [d2.fl] at g1250; cases g1250) | (rw [(az2.1 (6, 8) (by decide))] at g1250; cases g1250) | (rw [az2.2.1] at g1250; cases g1250) | (rw [az2.2.2.1] at g1250; cases g1250) | skip
          refine zSaload (m := 1) (k := 1) vr_149_129 rfl rfl rfl ?_
          refine zLget vr_149_130 rfl (fun p1252 w1252 e1252 t1252 g1252 => ?_)
          cases e1252
          first | (rw [d2.fl] at g1252; cases g1252) | (rw [(az2.1 (6, 8) (by decide))] at g1252; cases g1252) | (rw [az2.2.1] at g1252; cases g1252) | (rw [az2.2.2.1] at g1252; cases g1252) | skip
          refine zSiload (m := 1) (k := 2) vr_149_133 rfl rfl rfl (fun x1253 e1253 => ?_)
          cases e1253
          refine zLiast vr_149_134 rfl (fun p1254 x1254 z1254 k1254 e1254 f1254 d1254 c1254 t1254 g1254 => ?_)
          cases e1254
          cases f1254
          cases d1254
          have az3 := az2
          have g3 := g1254
          have i2 : (F 8).toNatClampNeg < 2 ∧ (F 8 + 1 = 0 ∨ F 8 + 1 = 1 ∨ F 8 + 1 = 2) := by
            rcases az.2.2.2.2.2.1 with z | z | z
            · rw [z]; decide
            · rw [z]; decide
            · first
                | exact absurd z c1209
                | exact absurd (i2 (by decide)) (by rw [c1248]; decide)
          have hsg : sv = sg2 (sg T L p) := by
            rcases hsv with ⟨z, z1, z2⟩ | ⟨-, -, ⟨z1, z2⟩ | ⟨z1, z2⟩⟩
            · rw [z]; unfold sg2; rw [if_neg z1, if_neg z2]
            · rw [z1, z2]; rfl
            · rw [z1, z2]; rfl
          replace az3 := az3.putS i2.1 hsg g3
          have e8 : upF F (9 + (F 8).toNatClampNeg) (sg T L p) 8 = F 8 := upF_ne (by omega)
          have l8 : gF k1254 A 6 = some (.int (F 8)) := by
            rw [← e8]
            exact az3.1 (6, 8) (by decide)
          refine zSaload (m := 1) (k := 1) vr_149_135 rfl rfl rfl ?_
          refine zLget vr_149_136 rfl (fun p1256 w1256 e1256 t1256 g1256 => ?_)
          cases e1256
          first | (rw [az3.2.2.1] at g1256; cases g1256) | (rw [l8] at g1256; cases g1256) | skip
          refine zSaload (m := 1) (k := 1) vr_149_139 rfl rfl rfl ?_
          refine zLget vr_149_140 rfl (fun p1258 w1258 e1258 t1258 g1258 => ?_)
          cases e1258
          first | (rw [az3.2.2.1] at g1258; cases g1258) | (rw [l8] at g1258; cases g1258) | skip
          refine zSiload (m := 1) (k := 3) vr_149_143 rfl rfl rfl (fun x1259 e1259 => ?_)
          cases e1259
          refine zLiast vr_149_144 rfl (fun p1260 x1260 z1260 k1260 e1260 f1260 d1260 c1260 t1260 g1260 => ?_)
          cases e1260
          cases f1260
          cases d1260
          have az4 := az3.putN i2.1 g1260
          have l9 : gF k1260 A 6 = some (.int (F 8)) := by
            rw [← e8, ← upF_ne (F := upF F (9 + (F 8).toNatClampNeg) (sg T L p)) (k := 11 + (F 8).toNatClampNeg) (x := v2) (show ¬ 8 = 11 + (F 8).toNatClampNeg by omega)]
            exact az4.1 (6, 8) (by decide)
          refine zSaload (m := 1) (k := 1) vr_149_145 rfl rfl rfl ?_
          refine zSdup vr_149_146 rfl ?_
          refine zLget vr_149_147 rfl (fun p1263 w1263 e1263 t1263 g1263 => ?_)
          cases e1263
          first | (rw [l9] at g1263; cases g1263) | skip
          refine zSp0 (pc' := 151) (st' := .int (1) :: _) vr_149_150 rfl rfl ?_
          refine zS2 (f := fun x y => .int (x + y)) vr_149_151 rfl rfl (fun x1265 y1265 e1265 f1265 => ?_)
          cases e1265
          cases f1265
          refine zLput vr_149_152 rfl (fun p1266 k1266 e1266 t1266 g1266 => ?_)
          cases e1266
          have az5 := az4.put (i := 6) (j := 8) (by decide) (fun _ => i2.2) g1266
          have d3 := ((d2.putC g1254 lS hn.2.1.1 hn.2.1.2).putC g1260 lN hn.2.2.1 hn.2.2.2).putC g1266 lA hn.1.1 hn.1.2
          have fa := ((((FA.fm f1).trans (FA.fm f2)).trans (FA.put g1254 (Or.inr (Or.inl rfl)))).trans (FA.put g1260 (Or.inr (Or.inr rfl)))).trans (FA.put g1266 (Or.inl ⟨rfl, by decide⟩))
          refine zSvoid vr_149_155 rfl ?_
          first
            | exact absurd (i2' (by decide)) (by rw [c1248]; decide)
            | (obtain ⟨ea, el, hs⟩ := hsv.resolve_left (fun y => c1175 y.1)
               have w := k2 (by decide) _ el ea
               have hg : sg T L p = 60 ∨ sg T L p = 62 := by
                 rcases hs with ⟨-, z⟩ | ⟨-, z⟩
                 · exact Or.inl z
                 · exact Or.inr z
               cases en : nuS T L (skp T L p + 1) with
               | none =>
                 rw [en] at w
                 have w : bd2 = 1 := w
                 exact absurd (c1248.symm.trans w) (by decide)
               | some y =>
                 rw [en] at w
                 obtain ⟨w1, w2, w3⟩ := w
                 refine ⟨fa, rfl, _, _, d3, Or.inr ⟨c1248, y.2, adF F (sg T L p) y.1, ?_, (nuS_b el en).1, w3, ?_⟩⟩
                 · unfold sLim
                   rw [if_pos hg, if_neg c1209, en]
                 · rw [← w2]
                   have az6 : AZ A AS AN k1266 (adL F (sg T L p) v2) := az5
                   unfold adF
                   by_cases z : sg T L p = 60
                   · rw [if_pos z]
                     exact az6.lm (Or.inr rfl)
                   · rw [if_neg z]
                     exact az6.lm (Or.inl rfl))
        · cases e1248
          have c1248 := ndc q1248
          refine zSvoid vr_149_124 rfl ?_
          refine ⟨(FA.fm f1).trans (FA.fm f2), rfl, _, _, d2, Or.inl ⟨d2.or.resolve_left c1248, ?_⟩⟩
          unfold sLim
          by_cases hg : sg T L p = 60 ∨ sg T L p = 62
          · rw [if_pos hg]
            first
              | (exfalso
                 rcases hsv with ⟨-, n1, n2⟩ | ⟨-, -, ⟨z, -⟩ | ⟨z, -⟩⟩
                 · rcases hg with y | y
                   · exact n1 y
                   · exact n2 y
                 · have y := c1175
                   rw [z] at y
                   exact absurd y (by decide)
                 · have y := c1175
                   rw [z] at y
                   exact absurd y (by decide))
              | rw [if_pos (Decidable.not_not.mp c1209)]
              | (rw [if_neg c1209]
                 obtain ⟨ea, el, -⟩ := hsv.resolve_left (fun y => c1175 y.1)
                 have w := k2 (by decide) _ el ea
                 cases en : nuS T L (skp T L p + 1) with
                 | none => rfl
                 | some y =>
                   rw [en] at w
                   exact absurd w.1 c1248)
          · rw [if_neg hg]
      · obtain ⟨-, _, _, _, z, -⟩ := q1244
        cases z
theorem C_mcon (n : Nat)  (h : List zC) (u : Nat) {T : Nat → Int32} {L s b A AS AN p : Nat} {a : Int32} {F : Nat → Int32} (hn : NE s b A AS AN) (d : MB T L s b h a 0) (az : AZ A AS AN h F) (hp : p ≤ L) (ha : a = Int32.ofNat p) : zL zrx zi n 149 0 [(0, .ref 213), (1, .ref A)] [] h u (fun o h2 _ => FA A AS AN h h2 ∧ o = .inl none ∧ ∃ a2 bd2 : Int32, MB T L s b h2 a2 bd2 ∧ GR T L A AS AN h2 a2 bd2 (sCon T L p F)) := by
  have lA := az.2.2.2.2.2.2.1
  refine zSaload (m := 1) (k := 0) vr_149_0 rfl rfl rfl ?_
  refine zSp0 (pc' := 3) (st' := .int (43) :: _) vr_149_1 rfl rfl ?_
  refine zScall vr_149_3 rfl rfl rfl (fun m1271 _ => C_mtk _ _ _ _ d ⟨by decide, by decide⟩) (fun v1271 h1271 u1271 q1271 => ?_) (fun E1271 h1271 u1271 q1271 => ?_)
  · obtain ⟨f1, a1, r1, z1271, d1, k1⟩ := q1271
    cases z1271
    show zL zrx zi _ 149 6 [(0, _), (1, _)] [_] _ _ _
    have sl : skp T L p ≤ L := (skp_b (T := T) _ p rfl hp).2.1
    have ss : sg T L (skp T L p) = sg T L p := sg_skp hp
    obtain ⟨w1, x1⟩ := k1 (p) (hp) (ha)
    refine zSb1 (f := fun x => decide (x = 0)) (off := 23) (t := 29) vr_149_6 rfl rfl rfl (fun x1272 e1272 q1272 => ?_) (fun x1272 e1272 q1272 => ?_)
    · cases e1272
      have c1272 := of_decide_eq_true q1272
      obtain ⟨t1, u1⟩ := tkS_n (T := T) (L := L) (p := p) (c := 43) (by rw [← w1]; exact c1272)
      have y1 : a1 = Int32.ofNat (skp T L p) := by rw [x1, u1]
      refine zSaload (m := 1) (k := 0) vr_149_29 rfl rfl rfl ?_
      refine zSp0 (pc' := 32) (st' := .int (45) :: _) vr_149_30 rfl rfl ?_
      refine zScall vr_149_32 rfl rfl rfl (fun m1275 _ => C_mtk _ _ _ _ d1 ⟨by decide, by decide⟩) (fun v1275 h1275 u1275 q1275 => ?_) (fun E1275 h1275 u1275 q1275 => ?_)
      · obtain ⟨f2, a2, r2, z1275, d2, k2⟩ := q1275
        cases z1275
        show zL zrx zi _ 149 35 [(0, _), (1, _)] [_] _ _ _
        obtain ⟨w2, x2⟩ := k2 (skp T L p) (sl) (y1)
        refine zSb1 (f := fun x => decide (x = 0)) (off := 23) (t := 58) vr_149_35 rfl rfl rfl (fun x1276 e1276 q1276 => ?_) (fun x1276 e1276 q1276 => ?_)
        · cases e1276
          have c1276 := of_decide_eq_true q1276
          obtain ⟨t2, u2⟩ := tkS_n (T := T) (L := L) (p := skp T L p) (c := 45) (by rw [← w2]; exact c1276)
          have y2 : a2 = Int32.ofNat (skp T L p) := by rw [x2, u2]; rw [skp_skp hp]
          have t2 : ¬ sg T L p = 45 := fun z => t2 (ss.trans z)
          refine zSaload (m := 1) (k := 0) vr_149_58 rfl rfl rfl ?_
          refine zSp0 (pc' := 61) (st' := .int (60) :: _) vr_149_59 rfl rfl ?_
          refine zScall vr_149_61 rfl rfl rfl (fun m1279 _ => C_mtk _ _ _ _ d2 ⟨by decide, by decide⟩) (fun v1279 h1279 u1279 q1279 => ?_) (fun E1279 h1279 u1279 q1279 => ?_)
          · obtain ⟨f3, a3, r3, z1279, d3, k3⟩ := q1279
            cases z1279
            show zL zrx zi _ 149 64 [(0, _), (1, _)] [_] _ _ _
            obtain ⟨w3, x3⟩ := k3 (skp T L p) (sl) (y2)
            refine zSb1 (f := fun x => decide (x = 0)) (off := 7) (t := 71) vr_149_64 rfl rfl rfl (fun x1280 e1280 q1280 => ?_) (fun x1280 e1280 q1280 => ?_)
            · cases e1280
              have c1280 := of_decide_eq_true q1280
              obtain ⟨t3, u3⟩ := tkS_n (T := T) (L := L) (p := skp T L p) (c := 60) (by rw [← w3]; exact c1280)
              have y3 : a3 = Int32.ofNat (skp T L p) := by rw [x3, u3]; rw [skp_skp hp]
              have t3 : ¬ sg T L p = 60 := fun z => t3 (ss.trans z)
              refine zSaload (m := 1) (k := 0) vr_149_71 rfl rfl rfl ?_
              refine zSp0 (pc' := 74) (st' := .int (62) :: _) vr_149_72 rfl rfl ?_
              refine zScall vr_149_74 rfl rfl rfl (fun m1283 _ => C_mtk _ _ _ _ d3 ⟨by decide, by decide⟩) (fun v1283 h1283 u1283 q1283 => ?_) (fun E1283 h1283 u1283 q1283 => ?_)
              · obtain ⟨f4, a4, r4, z1283, d4, k4⟩ := q1283
                cases z1283
                show zL zrx zi _ 149 77 [(0, _), (1, _)] [_] _ _ _
                obtain ⟨w4, x4⟩ := k4 (skp T L p) (sl) (y3)
                refine zSb1 (f := fun x => decide (x = 0)) (off := 7) (t := 84) vr_149_77 rfl rfl rfl (fun x1284 e1284 q1284 => ?_) (fun x1284 e1284 q1284 => ?_)
                · cases e1284
                  have c1284 := of_decide_eq_true q1284
                  obtain ⟨t4, u4⟩ := tkS_n (T := T) (L := L) (p := skp T L p) (c := 62) (by rw [← w4]; exact c1284)
                  have y4 : a4 = Int32.ofNat (skp T L p) := by rw [x4, u4]; rw [skp_skp hp]
                  have t4 : ¬ sg T L p = 62 := fun z => t4 (ss.trans z)
                  refine zSp0 (pc' := 85) (st' := .int (0) :: _) vr_149_84 rfl rfl ?_
                  refine zSistore (m := 1) (k := 2) vr_149_85 rfl rfl (fun x1286 e1286 => ?_)
                  cases e1286
                  show zL zrx zi _ 149 86 [(2, _), (0, _), (1, _)] [] _ _ _
                  first
                    | (refine zL_K _ _ _ _ _ _ _ _ _ (zL_pm _ _ _ [(2, _), (0, _), (1, _)] _ _ _ _ _ ⟨(List.forall_mem_cons.mpr ⟨List.mem_cons_self, (List.forall_mem_cons.mpr ⟨(List.mem_cons_of_mem _ List.mem_cons_self), (List.forall_mem_cons.mpr ⟨(List.mem_cons_of_mem _ (List.mem_cons_of_mem _ List.mem_cons_self)), (fun _ h => absurd h List.not_mem_nil)⟩)⟩)⟩), show ([2, 0, 1] : List Nat).Nodup by decide⟩ (C_mcR (p := p) (F := F) hn d3 (((az.fm f1).fm f2).fm f3) (Or.inr ⟨y3, l1, Or.inl ⟨rfl, t3⟩⟩) _ _)) (fun o h2 u2 q => ?_)
                       obtain ⟨q1, q2, a9, bd9, q3, q4⟩ := q
                       refine ⟨(((FA.fm f1).trans (FA.fm f2)).trans (FA.fm f3)).trans q1, q2, a9, bd9, q3, ?_⟩
                       unfold sCon
                       rw [if_neg t1, if_neg t2]
                       exact q4)
                    | (refine zL_K _ _ _ _ _ _ _ _ _ (zL_pm _ _ _ [(2, _), (0, _), (1, _)] _ _ _ _ _ ⟨(List.forall_mem_cons.mpr ⟨List.mem_cons_self, (List.forall_mem_cons.mpr ⟨(List.mem_cons_of_mem _ List.mem_cons_self), (List.forall_mem_cons.mpr ⟨(List.mem_cons_of_mem _ (List.mem_cons_of_mem _ List.mem_cons_self)), (fun _ h => absurd h List.not_mem_nil)⟩)⟩)⟩), show ([2, 0, 1] : List Nat).Nodup by decide⟩ (C_mcR (p := p) (F := F) hn d4 ((((az.fm f1).fm f2).fm f3).fm f4) (Or.inr ⟨y4, l1, Or.inr ⟨rfl, t4⟩⟩) _ _)) (fun o h2 u2 q => ?_)
                       obtain ⟨q1, q2, a9, bd9, q3, q4⟩ := q
                       refine ⟨((((FA.fm f1).trans (FA.fm f2)).trans (FA.fm f3)).trans (FA.fm f4)).trans q1, q2, a9, bd9, q3, ?_⟩
                       unfold sCon
                       rw [if_neg t1, if_neg t2]
                       exact q4)
                    | (refine zL_K _ _ _ _ _ _ _ _ _ (zL_pm _ _ _ [(2, _), (0, _), (1, _)] _ _ _ _ _ ⟨(List.forall_mem_cons.mpr ⟨List.mem_cons_self, (List.forall_mem_cons.mpr ⟨(List.mem_cons_of_mem _ List.mem_cons_self), (List.forall_mem_cons.mpr ⟨(List.mem_cons_of_mem _ (List.mem_cons_of_mem _ List.mem_cons_self)), (fun _ h => absurd h List.not_mem_nil)⟩)⟩)⟩), show ([2, 0, 1] : List Nat).Nodup by decide⟩ (C_mcR (p := p) (F := F) hn d4 ((((az.fm f1).fm f2).fm f3).fm f4) (Or.inl ⟨rfl, t3, t4⟩) _ _)) (fun o h2 u2 q => ?_)
                       obtain ⟨q1, q2, a9, bd9, q3, q4⟩ := q
                       refine ⟨((((FA.fm f1).trans (FA.fm f2)).trans (FA.fm f3)).trans (FA.fm f4)).trans q1, q2, a9, bd9, q3, ?_⟩
                       unfold sCon
                       rw [if_neg t1, if_neg t2]
                       exact q4)
                · cases e1284
                  have c1284 := ndc q1284
                  obtain ⟨t4, u4⟩ := tkS_y (T := T) (L := L) (p := skp T L p) (c := 62) (by rw [← w4]; exact c1284)
                  have y4 : a4 = Int32.ofNat (skp T L p + 1) := by rw [x4, u4]; rw [skp_skp hp]
                  have t4 : sg T L p = 62 := ss.symm.trans t4
                  have l1 : skp T L p + 1 ≤ L := sg_lt (T := T) (by rw [t4]; decide)
                  refine zSp0 (pc' := 81) (st' := .int (2) :: _) vr_149_80 rfl rfl ?_
                  refine zSgo (t := 85) vr_149_81 rfl rfl ?_
                  refine zSistore (m := 1) (k := 2) vr_149_85 rfl rfl (fun x1289 e1289 => ?_)
                  cases e1289
                  show zL zrx zi _ 149 86 [(2, _), (0, _), (1, _)] [] _ _ _
                  first
                    | (refine zL_K _ _ _ _ _ _ _ _ _ (zL_pm _ _ _ [(2, _), (0, _), (1, _)] _ _ _ _ _ ⟨(List.forall_mem_cons.mpr ⟨List.mem_cons_self, (List.forall_mem_cons.mpr ⟨(List.mem_cons_of_mem _ List.mem_cons_self), (List.forall_mem_cons.mpr ⟨(List.mem_cons_of_mem _ (List.mem_cons_of_mem _ List.mem_cons_self)), (fun _ h => absurd h List.not_mem_nil)⟩)⟩)⟩), show ([2, 0, 1] : List Nat).Nodup by decide⟩ (C_mcR (p := p) (F := F) hn d3 (((az.fm f1).fm f2).fm f3) (Or.inr ⟨y3, l1, Or.inl ⟨rfl, t3⟩⟩) _ _)) (fun o h2 u2 q => ?_)
                       obtain ⟨q1, q2, a9, bd9, q3, q4⟩ := q
                       refine ⟨(((FA.fm f1).trans (FA.fm f2)).trans (FA.fm f3)).trans q1, q2, a9, bd9, q3, ?_⟩
                       unfold sCon
                       rw [if_neg t1, if_neg t2]
                       exact q4)
                    | (refine zL_K _ _ _ _ _ _ _ _ _ (zL_pm _ _ _ [(2, _), (0, _), (1, _)] _ _ _ _ _ ⟨(List.forall_mem_cons.mpr ⟨List.mem_cons_self, (List.forall_mem_cons.mpr ⟨(List.mem_cons_of_mem _ List.mem_cons_self), (List.forall_mem_cons.mpr ⟨(List.mem_cons_of_mem _ (List.mem_cons_of_mem _ List.mem_cons_self)), (fun _ h => absurd h List.not_mem_nil)⟩)⟩)⟩), show ([2, 0, 1] : List Nat).Nodup by decide⟩ (C_mcR (p := p) (F := F) hn d4 ((((az.fm f1).fm f2).fm f3).fm f4) (Or.inr ⟨y4, l1, Or.inr ⟨rfl, t4⟩⟩) _ _)) (fun o h2 u2 q => ?_)
                       obtain ⟨q1, q2, a9, bd9, q3, q4⟩ := q
                       refine ⟨((((FA.fm f1).trans (FA.fm f2)).trans (FA.fm f3)).trans (FA.fm f4)).trans q1, q2, a9, bd9, q3, ?_⟩
                       unfold sCon
                       rw [if_neg t1, if_neg t2]
                       exact q4)
                    | (refine zL_K _ _ _ _ _ _ _ _ _ (zL_pm _ _ _ [(2, _), (0, _), (1, _)] _ _ _ _ _ ⟨(List.forall_mem_cons.mpr ⟨List.mem_cons_self, (List.forall_mem_cons.mpr ⟨(List.mem_cons_of_mem _ List.mem_cons_self), (List.forall_mem_cons.mpr ⟨(List.mem_cons_of_mem _ (List.mem_cons_of_mem _ List.mem_cons_self)), (fun _ h => absurd h List.not_mem_nil)⟩)⟩)⟩), show ([2, 0, 1] : List Nat).Nodup by decide⟩ (C_mcR (p := p) (F := F) hn d4 ((((az.fm f1).fm f2).fm f3).fm f4) (Or.inl ⟨rfl, t3, t4⟩) _ _)) (fun o h2 u2 q => ?_)
                       obtain ⟨q1, q2, a9, bd9, q3, q4⟩ := q
                       refine ⟨((((FA.fm f1).trans (FA.fm f2)).trans (FA.fm f3)).trans (FA.fm f4)).trans q1, q2, a9, bd9, q3, ?_⟩
                       unfold sCon
                       rw [if_neg t1, if_neg t2]
                       exact q4)
              · obtain ⟨-, _, _, z, -⟩ := q1283
                cases z
            · cases e1280
              have c1280 := ndc q1280
              obtain ⟨t3, u3⟩ := tkS_y (T := T) (L := L) (p := skp T L p) (c := 60) (by rw [← w3]; exact c1280)
              have y3 : a3 = Int32.ofNat (skp T L p + 1) := by rw [x3, u3]; rw [skp_skp hp]
              have t3 : sg T L p = 60 := ss.symm.trans t3
              have l1 : skp T L p + 1 ≤ L := sg_lt (T := T) (by rw [t3]; decide)
              refine zSp0 (pc' := 68) (st' := .int (1) :: _) vr_149_67 rfl rfl ?_
              refine zSgo (t := 85) vr_149_68 rfl rfl ?_
              refine zSistore (m := 1) (k := 2) vr_149_85 rfl rfl (fun x1292 e1292 => ?_)
              cases e1292
              show zL zrx zi _ 149 86 [(2, _), (0, _), (1, _)] [] _ _ _
              first
                | (refine zL_K _ _ _ _ _ _ _ _ _ (zL_pm _ _ _ [(2, _), (0, _), (1, _)] _ _ _ _ _ ⟨(List.forall_mem_cons.mpr ⟨List.mem_cons_self, (List.forall_mem_cons.mpr ⟨(List.mem_cons_of_mem _ List.mem_cons_self), (List.forall_mem_cons.mpr ⟨(List.mem_cons_of_mem _ (List.mem_cons_of_mem _ List.mem_cons_self)), (fun _ h => absurd h List.not_mem_nil)⟩)⟩)⟩), show ([2, 0, 1] : List Nat).Nodup by decide⟩ (C_mcR (p := p) (F := F) hn d3 (((az.fm f1).fm f2).fm f3) (Or.inr ⟨y3, l1, Or.inl ⟨rfl, t3⟩⟩) _ _)) (fun o h2 u2 q => ?_)
                   obtain ⟨q1, q2, a9, bd9, q3, q4⟩ := q
                   refine ⟨(((FA.fm f1).trans (FA.fm f2)).trans (FA.fm f3)).trans q1, q2, a9, bd9, q3, ?_⟩
                   unfold sCon
                   rw [if_neg t1, if_neg t2]
                   exact q4)
                | (refine zL_K _ _ _ _ _ _ _ _ _ (zL_pm _ _ _ [(2, _), (0, _), (1, _)] _ _ _ _ _ ⟨(List.forall_mem_cons.mpr ⟨List.mem_cons_self, (List.forall_mem_cons.mpr ⟨(List.mem_cons_of_mem _ List.mem_cons_self), (List.forall_mem_cons.mpr ⟨(List.mem_cons_of_mem _ (List.mem_cons_of_mem _ List.mem_cons_self)), (fun _ h => absurd h List.not_mem_nil)⟩)⟩)⟩), show ([2, 0, 1] : List Nat).Nodup by decide⟩ (C_mcR (p := p) (F := F) hn d4 ((((az.fm f1).fm f2).fm f3).fm f4) (Or.inr ⟨y4, l1, Or.inr ⟨rfl, t4⟩⟩) _ _)) (fun o h2 u2 q => ?_)
                   obtain ⟨q1, q2, a9, bd9, q3, q4⟩ := q
                   refine ⟨((((FA.fm f1).trans (FA.fm f2)).trans (FA.fm f3)).trans (FA.fm f4)).trans q1, q2, a9, bd9, q3, ?_⟩
                   unfold sCon
                   rw [if_neg t1, if_neg t2]
                   exact q4)
                | (refine zL_K _ _ _ _ _ _ _ _ _ (zL_pm _ _ _ [(2, _), (0, _), (1, _)] _ _ _ _ _ ⟨(List.forall_mem_cons.mpr ⟨List.mem_cons_self, (List.forall_mem_cons.mpr ⟨(List.mem_cons_of_mem _ List.mem_cons_self), (List.forall_mem_cons.mpr ⟨(List.mem_cons_of_mem _ (List.mem_cons_of_mem _ List.mem_cons_self)), (fun _ h => absurd h List.not_mem_nil)⟩)⟩)⟩), show ([2, 0, 1] : List Nat).Nodup by decide⟩ (C_mcR (p := p) (F := F) hn d4 ((((az.fm f1).fm f2).fm f3).fm f4) (Or.inl ⟨rfl, t3, t4⟩) _ _)) (fun o h2 u2 q => ?_)
                   obtain ⟨q1, q2, a9, bd9, q3, q4⟩ := q
                   refine ⟨((((FA.fm f1).trans (FA.fm f2)).trans (FA.fm f3)).trans (FA.fm f4)).trans q1, q2, a9, bd9, q3, ?_⟩
                   unfold sCon
                   rw [if_neg t1, if_neg t2]
                   exact q4)
          · obtain ⟨-, _, _, z, -⟩ := q1279
            cases z
        · cases e1276
          have c1276 := ndc q1276
          obtain ⟨t2, u2⟩ := tkS_y (T := T) (L := L) (p := skp T L p) (c := 45) (by rw [← w2]; exact c1276)
          have y2 : a2 = Int32.ofNat (skp T L p + 1) := by rw [x2, u2]; rw [skp_skp hp]
          have t2 : sg T L p = 45 := ss.symm.trans t2
          have l1 : skp T L p + 1 ≤ L := sg_lt (T := T) (by rw [t2]; decide)
          have az1 := (az.fm f1).fm f2
          refine zSaload (m := 1) (k := 1) vr_149_38 rfl rfl rfl ?_
          refine zSdup vr_149_39 rfl ?_
          refine zLget vr_149_40 rfl (fun p1295 w1295 e1295 t1295 g1295 => ?_)
          cases e1295
          first | (rw [(az1.1 (3, 3) (by decide))] at g1295; cases g1295) | skip
          refine zSp0 (pc' := 44) (st' := .int (1) :: _) vr_149_43 rfl rfl ?_
          refine zSaload (m := 1) (k := 0) vr_149_44 rfl rfl rfl ?_
          refine zSp0 (pc' := 47) (st' := .int (6) :: _) vr_149_45 rfl rfl ?_
          refine zScall vr_149_47 rfl rfl rfl (fun m1299 _ => C_mdg _ _ _ _ d2 ⟨by decide, by decide⟩) (fun v1299 h1299 u1299 q1299 => ?_) (fun E1299 h1299 u1299 q1299 => ?_)
          · obtain ⟨f3, a3, bd3, v3, z1299, d3, i3, k3⟩ := q1299
            cases z1299
            show zL zrx zi _ 149 50 [(0, _), (1, _)] [_, _, _, _] _ _ _
            have k3 := k3 rfl _ l1 y2
            refine zS2 (f := fun x y => .int (x <<< (y &&& 31))) vr_149_50 rfl rfl (fun x1300 y1300 e1300 f1300 => ?_)
            cases e1300
            cases f1300
            refine zS2 (f := fun x y => .int (x ||| y)) vr_149_51 rfl rfl (fun x1301 y1301 e1301 f1301 => ?_)
            cases e1301
            cases f1301
            refine zLput vr_149_52 rfl (fun p1302 k1302 e1302 t1302 g1302 => ?_)
            cases e1302
            refine zSgo (t := 155) vr_149_55 rfl rfl ?_
            refine zSvoid vr_149_155 rfl ?_
            first
              | (have az2 := (az1.fm f2).put (i := 2) (j := 2) (by decide) (fun z => absurd z (by decide)) g804
                 refine ⟨((FA.fm f1).trans (FA.fm f2)).trans (FA.put g804 (Or.inl ⟨rfl, by decide⟩)), rfl, _, _, d2.putC g804 lA hn.1.1 hn.1.2, ?_⟩
                 unfold sCon
                 rw [if_pos t1]
                 rcases k2 with ⟨e1, e2⟩ | ⟨e1, e2, e3, e4⟩
                 · exact Or.inl ⟨e2, by rw [if_pos e1]⟩
                 · refine Or.inr ⟨e2, _, _, by rw [if_neg e1], (tkD_b (T := T) l1).1, e4, ?_⟩
                   rw [← e3]
                   exact az2)
              | (have az2 := (az1.fm f3).put (i := 3) (j := 3) (by decide) (fun z => absurd z (by decide)) g1302
                 refine ⟨(((FA.fm f1).trans (FA.fm f2)).trans (FA.fm f3)).trans (FA.put g1302 (Or.inl ⟨rfl, by decide⟩)), rfl, _, _, d3.putC g1302 lA hn.1.1 hn.1.2, ?_⟩
                 unfold sCon
                 rw [if_neg t1, if_pos t2]
                 rcases k3 with ⟨e1, e2⟩ | ⟨e1, e2, e3, e4⟩
                 · exact Or.inl ⟨e2, by rw [if_pos e1]⟩
                 · refine Or.inr ⟨e2, _, _, by rw [if_neg e1], (tkD_b (T := T) l1).1, e4, ?_⟩
                   rw [← e3]
                   exact az2)
          · obtain ⟨-, _, _, _, z, -⟩ := q1299
            cases z
      · obtain ⟨-, _, _, z, -⟩ := q1275
        cases z
    · cases e1272
      have c1272 := ndc q1272
      obtain ⟨t1, u1⟩ := tkS_y (T := T) (L := L) (p := p) (c := 43) (by rw [← w1]; exact c1272)
      have y1 : a1 = Int32.ofNat (skp T L p + 1) := by rw [x1, u1]
      have t1 : sg T L p = 43 := t1
      have l1 : skp T L p + 1 ≤ L := sg_lt (T := T) (by rw [t1]; decide)
      have az1 := az.fm f1
      refine zSaload (m := 1) (k := 1) vr_149_9 rfl rfl rfl ?_
      refine zSdup vr_149_10 rfl ?_
      refine zLget vr_149_11 rfl (fun p1307 w1307 e1307 t1307 g1307 => ?_)
      cases e1307
      first | (rw [(az1.1 (2, 2) (by decide))] at g1307; cases g1307) | skip
      refine zSp0 (pc' := 15) (st' := .int (1) :: _) vr_149_14 rfl rfl ?_
      refine zSaload (m := 1) (k := 0) vr_149_15 rfl rfl rfl ?_
      refine zSp0 (pc' := 18) (st' := .int (6) :: _) vr_149_16 rfl rfl ?_
      refine zScall vr_149_18 rfl rfl rfl (fun m1311 _ => C_mdg _ _ _ _ d1 ⟨by decide, by decide⟩) (fun v1311 h1311 u1311 q1311 => ?_) (fun E1311 h1311 u1311 q1311 => ?_)
      · obtain ⟨f2, a2, bd2, v2, z1311, d2, i2, k2⟩ := q1311
        cases z1311
        show zL zrx zi _ 149 21 [(0, _), (1, _)] [_, _, _, _] _ _ _
        have k2 := k2 rfl _ l1 y1
        refine zS2 (f := fun x y => .int (x <<< (y &&& 31))) vr_149_21 rfl rfl (fun x1312 y1312 e1312 f1312 => ?_)
        cases e1312
        cases f1312
        refine zS2 (f := fun x y => .int (x ||| y)) vr_149_22 rfl rfl (fun x1313 y1313 e1313 f1313 => ?_)
        cases e1313
        cases f1313
        refine zLput vr_149_23 rfl (fun p1314 k1314 e1314 t1314 g1314 => ?_)
        cases e1314
        refine zSgo (t := 155) vr_149_26 rfl rfl ?_
        refine zSvoid vr_149_155 rfl ?_
        first
          | (have az2 := (az1.fm f2).put (i := 2) (j := 2) (by decide) (fun z => absurd z (by decide)) g1314
             refine ⟨((FA.fm f1).trans (FA.fm f2)).trans (FA.put g1314 (Or.inl ⟨rfl, by decide⟩)), rfl, _, _, d2.putC g1314 lA hn.1.1 hn.1.2, ?_⟩
             unfold sCon
             rw [if_pos t1]
             rcases k2 with ⟨e1, e2⟩ | ⟨e1, e2, e3, e4⟩
             · exact Or.inl ⟨e2, by rw [if_pos e1]⟩
             · refine Or.inr ⟨e2, _, _, by rw [if_neg e1], (tkD_b (T := T) l1).1, e4, ?_⟩
               rw [← e3]
               exact az2)
          | (have az2 := (az1.fm f3).put (i := 3) (j := 3) (by decide) (fun z => absurd z (by decide)) g1302
             refine ⟨(((FA.fm f1).trans (FA.fm f2)).trans (FA.fm f3)).trans (FA.put g1302 (Or.inl ⟨rfl, by decide⟩)), rfl, _, _, d3.putC g1302 lA hn.1.1 hn.1.2, ?_⟩
             unfold sCon
             rw [if_neg t1, if_pos t2]
             rcases k3 with ⟨e1, e2⟩ | ⟨e1, e2, e3, e4⟩
             · exact Or.inl ⟨e2, by rw [if_pos e1]⟩
             · refine Or.inr ⟨e2, _, _, by rw [if_neg e1], (tkD_b (T := T) l1).1, e4, ?_⟩
               rw [← e3]
               exact az2)
      · obtain ⟨-, _, _, _, z, -⟩ := q1311
        cases z
  · obtain ⟨-, _, _, z, -⟩ := q1271
    cases z

/-! ===== values: the cluster, 4 ===== -/
theorem vr_160_0 : zrx 160 0 = some (.aload_n 0, 0, 0) := by decide +kernel
theorem vr_160_1 : zrx 160 1 = some (.iconst 0, 0, 0) := by decide +kernel
theorem vr_160_2 : zrx 160 2 = some (.putfield 55, 18, 0) := by decide +kernel
theorem vr_160_5 : zrx 160 5 = some (.iload_n 1, 0, 0) := by decide +kernel
theorem vr_160_6 : zrx 160 6 = some (.bipush 32, 0, 0) := by decide +kernel
theorem vr_160_8 : zrx 160 8 = some (.if_icmp .lt 9, 0, 0) := by decide +kernel
theorem vr_160_11 : zrx 160 11 = some (.iload_n 1, 0, 0) := by decide +kernel
theorem vr_160_12 : zrx 160 12 = some (.bipush 126, 0, 0) := by decide +kernel
theorem vr_160_14 : zrx 160 14 = some (.if_icmp .le 9, 0, 0) := by decide +kernel
theorem vr_160_17 : zrx 160 17 = some (.aload_n 0, 0, 0) := by decide +kernel
theorem vr_160_18 : zrx 160 18 = some (.iconst 1, 0, 0) := by decide +kernel
theorem vr_160_19 : zrx 160 19 = some (.invokevirtual 212, 131, 190) := by decide +kernel
theorem vr_160_22 : zrx 160 22 = some (.ireturn, 0, 0) := by decide +kernel
theorem vr_160_23 : zrx 160 23 = some (.aload_n 0, 0, 0) := by decide +kernel
theorem vr_160_24 : zrx 160 24 = some (.getfield 36, 18, 10) := by decide +kernel
theorem vr_160_27 : zrx 160 27 = some (.invokevirtual 151, 264, 10) := by decide +kernel
theorem vr_160_30 : zrx 160 30 = some (.bipush 60, 0, 0) := by decide +kernel
theorem vr_160_32 : zrx 160 32 = some (.if_icmp .ne 9, 0, 0) := by decide +kernel
theorem vr_160_35 : zrx 160 35 = some (.aload_n 0, 0, 0) := by decide +kernel
theorem vr_160_36 : zrx 160 36 = some (.iconst 2, 0, 0) := by decide +kernel
theorem vr_160_37 : zrx 160 37 = some (.invokevirtual 212, 131, 190) := by decide +kernel
theorem vr_160_40 : zrx 160 40 = some (.ireturn, 0, 0) := by decide +kernel
theorem vr_160_41 : zrx 160 41 = some (.aload_n 0, 0, 0) := by decide +kernel
theorem vr_160_42 : zrx 160 42 = some (.new 238, 1, 0) := by decide +kernel
theorem vr_160_45 : zrx 160 45 = some (.dup, 0, 0) := by decide +kernel
theorem vr_160_46 : zrx 160 46 = some (.invokespecial 240, 273, 20) := by decide +kernel
theorem vr_160_49 : zrx 160 49 = some (.aload_n 0, 0, 0) := by decide +kernel
theorem vr_160_50 : zrx 160 50 = some (.getfield 36, 18, 10) := by decide +kernel
theorem vr_160_53 : zrx 160 53 = some (.invokevirtual 241, 274, 20) := by decide +kernel
theorem vr_160_56 : zrx 160 56 = some (.iload_n 1, 0, 0) := by decide +kernel
theorem vr_160_57 : zrx 160 57 = some (.i2c, 0, 0) := by decide +kernel
theorem vr_160_58 : zrx 160 58 = some (.invokevirtual 245, 275, 20) := by decide +kernel
theorem vr_160_61 : zrx 160 61 = some (.invokevirtual 248, 277, 20) := by decide +kernel
theorem vr_160_64 : zrx 160 64 = some (.putfield 36, 18, 10) := by decide +kernel
theorem vr_160_67 : zrx 160 67 = some (.aload_n 0, 0, 0) := by decide +kernel
theorem vr_160_68 : zrx 160 68 = some (.getfield 36, 18, 10) := by decide +kernel
theorem vr_160_71 : zrx 160 71 = some (.invokevirtual 151, 264, 10) := by decide +kernel
theorem vr_160_74 : zrx 160 74 = some (.ireturn, 0, 0) := by decide +kernel
theorem vr_244_0 : zrx 244 0 = some (.aload_n 0, 0, 0) := by decide +kernel
theorem vr_244_1 : zrx 244 1 = some (.invokespecial 3, 0, 6) := by decide +kernel
theorem vr_244_4 : zrx 244 4 = some (.getstatic 18, 1, 0) := by decide +kernel
theorem vr_244_7 : zrx 244 7 = some (.ifCond .eq 18, 0, 0) := by decide +kernel
theorem vr_244_10 : zrx 244 10 = some (.aload_n 0, 0, 0) := by decide +kernel
theorem vr_244_11 : zrx 244 11 = some (.iload_n 1, 0, 0) := by decide +kernel
theorem vr_244_12 : zrx 244 12 = some (.newarray .byte, 101, 0) := by decide +kernel
theorem vr_244_14 : zrx 244 14 = some (.putfield 15, 1, 0) := by decide +kernel
theorem vr_244_17 : zrx 244 17 = some (.aload_n 0, 0, 0) := by decide +kernel
theorem vr_244_18 : zrx 244 18 = some (.iconst 0, 0, 0) := by decide +kernel
theorem vr_244_19 : zrx 244 19 = some (.putfield 22, 1, 1) := by decide +kernel
theorem vr_244_22 : zrx 244 22 = some (.goto 16, 0, 0) := by decide +kernel
theorem vr_244_38 : zrx 244 38 = some (.return_, 0, 0) := by decide +kernel
theorem vr_245_0 : zrx 245 0 = some (.aload_n 0, 0, 0) := by decide +kernel
theorem vr_245_1 : zrx 245 1 = some (.getfield 79, 1, 3) := by decide +kernel
theorem vr_245_4 : zrx 245 4 = some (.ireturn, 0, 0) := by decide +kernel
theorem vr_246_0 : zrx 246 0 = some (.aload_n 0, 0, 0) := by decide +kernel
theorem vr_246_1 : zrx 246 1 = some (.getfield 15, 1, 0) := by decide +kernel
theorem vr_246_4 : zrx 246 4 = some (.arraylength, 0, 0) := by decide +kernel
theorem vr_246_5 : zrx 246 5 = some (.aload_n 0, 0, 0) := by decide +kernel
theorem vr_246_6 : zrx 246 6 = some (.getfield 22, 1, 1) := by decide +kernel
theorem vr_246_9 : zrx 246 9 = some (.ishr, 0, 0) := by decide +kernel
theorem vr_246_10 : zrx 246 10 = some (.istore_n 2, 0, 0) := by decide +kernel
theorem vr_246_11 : zrx 246 11 = some (.iload_n 1, 0, 0) := by decide +kernel
theorem vr_246_12 : zrx 246 12 = some (.iload_n 2, 0, 0) := by decide +kernel
theorem vr_246_13 : zrx 246 13 = some (.isub, 0, 0) := by decide +kernel
theorem vr_246_14 : zrx 246 14 = some (.ifCond .le 24, 0, 0) := by decide +kernel
theorem vr_246_17 : zrx 246 17 = some (.aload_n 0, 0, 0) := by decide +kernel
theorem vr_246_18 : zrx 246 18 = some (.aload_n 0, 0, 0) := by decide +kernel
theorem vr_246_19 : zrx 246 19 = some (.getfield 15, 1, 0) := by decide +kernel
theorem vr_246_22 : zrx 246 22 = some (.aload_n 0, 0, 0) := by decide +kernel
theorem vr_246_23 : zrx 246 23 = some (.iload_n 1, 0, 0) := by decide +kernel
theorem vr_246_24 : zrx 246 24 = some (.invokevirtual 104, 247, 20) := by decide +kernel
theorem vr_246_27 : zrx 246 27 = some (.aload_n 0, 0, 0) := by decide +kernel
theorem vr_246_28 : zrx 246 28 = some (.getfield 22, 1, 1) := by decide +kernel
theorem vr_246_31 : zrx 246 31 = some (.ishl, 0, 0) := by decide +kernel
theorem vr_246_32 : zrx 246 32 = some (.invokestatic 108, 312, 0) := by decide +kernel
theorem vr_246_35 : zrx 246 35 = some (.putfield 15, 1, 0) := by decide +kernel
theorem vr_246_38 : zrx 246 38 = some (.return_, 0, 0) := by decide +kernel
theorem vr_247_0 : zrx 247 0 = some (.aload_n 0, 0, 0) := by decide +kernel
theorem vr_247_1 : zrx 247 1 = some (.getfield 15, 1, 0) := by decide +kernel
theorem vr_247_4 : zrx 247 4 = some (.arraylength, 0, 0) := by decide +kernel
theorem vr_247_5 : zrx 247 5 = some (.istore_n 2, 0, 0) := by decide +kernel
theorem vr_247_6 : zrx 247 6 = some (.iload_n 1, 0, 0) := by decide +kernel
theorem vr_247_7 : zrx 247 7 = some (.aload_n 0, 0, 0) := by decide +kernel
theorem vr_247_8 : zrx 247 8 = some (.getfield 22, 1, 1) := by decide +kernel
theorem vr_247_11 : zrx 247 11 = some (.ishl, 0, 0) := by decide +kernel
theorem vr_247_12 : zrx 247 12 = some (.istore_n 3, 0, 0) := by decide +kernel
theorem vr_247_13 : zrx 247 13 = some (.iload_n 3, 0, 0) := by decide +kernel
theorem vr_247_14 : zrx 247 14 = some (.iload_n 2, 0, 0) := by decide +kernel
theorem vr_247_15 : zrx 247 15 = some (.isub, 0, 0) := by decide +kernel
theorem vr_247_16 : zrx 247 16 = some (.istore 4, 0, 0) := by decide +kernel
theorem vr_247_18 : zrx 247 18 = some (.iload_n 2, 0, 0) := by decide +kernel
theorem vr_247_19 : zrx 247 19 = some (.iload 4, 0, 0) := by decide +kernel
theorem vr_247_21 : zrx 247 21 = some (.iload_n 2, 0, 0) := by decide +kernel
theorem vr_247_22 : zrx 247 22 = some (.iconst 2, 0, 0) := by decide +kernel
theorem vr_247_23 : zrx 247 23 = some (.aload_n 0, 0, 0) := by decide +kernel
theorem vr_247_24 : zrx 247 24 = some (.getfield 22, 1, 1) := by decide +kernel
theorem vr_247_27 : zrx 247 27 = some (.ishl, 0, 0) := by decide +kernel
theorem vr_247_28 : zrx 247 28 = some (.iadd, 0, 0) := by decide +kernel
theorem vr_247_29 : zrx 247 29 = some (.invokestatic 114, 317, 0) := by decide +kernel
theorem vr_247_32 : zrx 247 32 = some (.istore 5, 0, 0) := by decide +kernel
theorem vr_247_34 : zrx 247 34 = some (.iload 5, 0, 0) := by decide +kernel
theorem vr_247_36 : zrx 247 36 = some (.ldc 39, 2147483647, 0) := by decide +kernel
theorem vr_247_38 : zrx 247 38 = some (.if_icmp .ne 13, 0, 0) := by decide +kernel
theorem vr_247_51 : zrx 247 51 = some (.iload 5, 0, 0) := by decide +kernel
theorem vr_247_53 : zrx 247 53 = some (.aload_n 0, 0, 0) := by decide +kernel
theorem vr_247_54 : zrx 247 54 = some (.getfield 22, 1, 1) := by decide +kernel
theorem vr_247_57 : zrx 247 57 = some (.ishr, 0, 0) := by decide +kernel
theorem vr_247_58 : zrx 247 58 = some (.ireturn, 0, 0) := by decide +kernel
theorem vr_249_0 : zrx 249 0 = some (.aload_n 1, 0, 0) := by decide +kernel
theorem vr_249_1 : zrx 249 1 = some (.ifnonnull 8, 0, 5000) := by decide +kernel
theorem vr_249_9 : zrx 249 9 = some (.aload_n 1, 0, 0) := by decide +kernel
theorem vr_249_10 : zrx 249 10 = some (.invokevirtual 32, 264, 10) := by decide +kernel
theorem vr_249_13 : zrx 249 13 = some (.istore_n 2, 0, 0) := by decide +kernel
theorem vr_249_14 : zrx 249 14 = some (.aload_n 0, 0, 0) := by decide +kernel
theorem vr_249_15 : zrx 249 15 = some (.aload_n 0, 0, 0) := by decide +kernel
theorem vr_249_16 : zrx 249 16 = some (.getfield 79, 1, 3) := by decide +kernel
theorem vr_249_19 : zrx 249 19 = some (.iload_n 2, 0, 0) := by decide +kernel
theorem vr_249_20 : zrx 249 20 = some (.iadd, 0, 0) := by decide +kernel
theorem vr_249_21 : zrx 249 21 = some (.invokevirtual 100, 246, 20) := by decide +kernel
theorem vr_249_24 : zrx 249 24 = some (.aload_n 0, 0, 0) := by decide +kernel
theorem vr_249_25 : zrx 249 25 = some (.aload_n 0, 0, 0) := by decide +kernel
theorem vr_249_26 : zrx 249 26 = some (.getfield 79, 1, 3) := by decide +kernel
theorem vr_249_29 : zrx 249 29 = some (.aload_n 1, 0, 0) := by decide +kernel
theorem vr_249_30 : zrx 249 30 = some (.invokevirtual 208, 256, 20) := by decide +kernel
theorem vr_249_33 : zrx 249 33 = some (.aload_n 0, 0, 0) := by decide +kernel
theorem vr_249_34 : zrx 249 34 = some (.dup, 0, 0) := by decide +kernel
theorem vr_249_35 : zrx 249 35 = some (.getfield 79, 1, 3) := by decide +kernel
theorem vr_249_38 : zrx 249 38 = some (.iload_n 2, 0, 0) := by decide +kernel
theorem vr_249_39 : zrx 249 39 = some (.iadd, 0, 0) := by decide +kernel
theorem vr_249_40 : zrx 249 40 = some (.putfield 79, 1, 3) := by decide +kernel
theorem vr_249_43 : zrx 249 43 = some (.aload_n 0, 0, 0) := by decide +kernel
theorem vr_249_44 : zrx 249 44 = some (.areturn, 0, 0) := by decide +kernel
theorem vr_251_0 : zrx 251 0 = some (.aload_n 0, 0, 0) := by decide +kernel
theorem vr_251_1 : zrx 251 1 = some (.aload_n 0, 0, 0) := by decide +kernel
theorem vr_251_2 : zrx 251 2 = some (.getfield 79, 1, 3) := by decide +kernel
theorem vr_251_5 : zrx 251 5 = some (.iconst 1, 0, 0) := by decide +kernel
theorem vr_251_6 : zrx 251 6 = some (.iadd, 0, 0) := by decide +kernel
theorem vr_251_7 : zrx 251 7 = some (.invokevirtual 100, 246, 20) := by decide +kernel
theorem vr_251_10 : zrx 251 10 = some (.aload_n 0, 0, 0) := by decide +kernel
theorem vr_251_11 : zrx 251 11 = some (.invokevirtual 83, 254, 20) := by decide +kernel
theorem vr_251_14 : zrx 251 14 = some (.ifCond .eq 31, 0, 0) := by decide +kernel
theorem vr_251_17 : zrx 251 17 = some (.iload_n 1, 0, 0) := by decide +kernel
theorem vr_251_18 : zrx 251 18 = some (.invokestatic 191, 280, 0) := by decide +kernel
theorem vr_251_21 : zrx 251 21 = some (.ifCond .eq 24, 0, 0) := by decide +kernel
theorem vr_251_24 : zrx 251 24 = some (.aload_n 0, 0, 0) := by decide +kernel
theorem vr_251_25 : zrx 251 25 = some (.getfield 15, 1, 0) := by decide +kernel
theorem vr_251_28 : zrx 251 28 = some (.aload_n 0, 0, 0) := by decide +kernel
theorem vr_251_29 : zrx 251 29 = some (.dup, 0, 0) := by decide +kernel
theorem vr_251_30 : zrx 251 30 = some (.getfield 79, 1, 3) := by decide +kernel
theorem vr_251_33 : zrx 251 33 = some (.dup_x1, 0, 0) := by decide +kernel
theorem vr_251_34 : zrx 251 34 = some (.iconst 1, 0, 0) := by decide +kernel
theorem vr_251_35 : zrx 251 35 = some (.iadd, 0, 0) := by decide +kernel
theorem vr_251_36 : zrx 251 36 = some (.putfield 79, 1, 3) := by decide +kernel
theorem vr_251_39 : zrx 251 39 = some (.iload_n 1, 0, 0) := by decide +kernel
theorem vr_251_40 : zrx 251 40 = some (.i2b, 0, 0) := by decide +kernel
theorem vr_251_41 : zrx 251 41 = some (.bastore, 0, 0) := by decide +kernel
theorem vr_251_42 : zrx 251 42 = some (.goto 33, 0, 0) := by decide +kernel
theorem vr_251_75 : zrx 251 75 = some (.aload_n 0, 0, 0) := by decide +kernel
theorem vr_251_76 : zrx 251 76 = some (.areturn, 0, 0) := by decide +kernel
theorem vr_253_0 : zrx 253 0 = some (.aload_n 0, 0, 0) := by decide +kernel
theorem vr_253_1 : zrx 253 1 = some (.getfield 15, 1, 0) := by decide +kernel
theorem vr_253_4 : zrx 253 4 = some (.areturn, 0, 0) := by decide +kernel
theorem vr_254_0 : zrx 254 0 = some (.getstatic 18, 1, 0) := by decide +kernel
theorem vr_254_3 : zrx 254 3 = some (.ifCond .eq 14, 0, 0) := by decide +kernel
theorem vr_254_6 : zrx 254 6 = some (.aload_n 0, 0, 0) := by decide +kernel
theorem vr_254_7 : zrx 254 7 = some (.getfield 22, 1, 1) := by decide +kernel
theorem vr_254_10 : zrx 254 10 = some (.ifCond .ne 7, 0, 0) := by decide +kernel
theorem vr_254_13 : zrx 254 13 = some (.iconst 1, 0, 0) := by decide +kernel
theorem vr_254_14 : zrx 254 14 = some (.goto 4, 0, 0) := by decide +kernel
theorem vr_254_17 : zrx 254 17 = some (.iconst 0, 0, 0) := by decide +kernel
theorem vr_254_18 : zrx 254 18 = some (.ireturn, 0, 0) := by decide +kernel
theorem vr_255_0 : zrx 255 0 = some (.getstatic 18, 1, 0) := by decide +kernel
theorem vr_255_3 : zrx 255 3 = some (.ifCond .eq 18, 0, 0) := by decide +kernel
theorem vr_255_6 : zrx 255 6 = some (.aload_n 0, 0, 0) := by decide +kernel
theorem vr_255_7 : zrx 255 7 = some (.getfield 22, 1, 1) := by decide +kernel
theorem vr_255_10 : zrx 255 10 = some (.aload_n 1, 0, 0) := by decide +kernel
theorem vr_255_11 : zrx 255 11 = some (.invokevirtual 40, 268, 10) := by decide +kernel
theorem vr_255_14 : zrx 255 14 = some (.if_icmp .eq 7, 0, 0) := by decide +kernel
theorem vr_255_21 : zrx 255 21 = some (.return_, 0, 0) := by decide +kernel
theorem vr_256_0 : zrx 256 0 = some (.aload_n 0, 0, 0) := by decide +kernel
theorem vr_256_1 : zrx 256 1 = some (.aload_n 2, 0, 0) := by decide +kernel
theorem vr_256_2 : zrx 256 2 = some (.invokevirtual 397, 255, 20) := by decide +kernel
theorem vr_256_5 : zrx 256 5 = some (.aload_n 2, 0, 0) := by decide +kernel
theorem vr_256_6 : zrx 256 6 = some (.aload_n 0, 0, 0) := by decide +kernel
theorem vr_256_7 : zrx 256 7 = some (.getfield 15, 1, 0) := by decide +kernel
theorem vr_256_10 : zrx 256 10 = some (.iload_n 1, 0, 0) := by decide +kernel
theorem vr_256_11 : zrx 256 11 = some (.aload_n 0, 0, 0) := by decide +kernel
theorem vr_256_12 : zrx 256 12 = some (.getfield 22, 1, 1) := by decide +kernel
theorem vr_256_15 : zrx 256 15 = some (.invokevirtual 399, 266, 10) := by decide +kernel
theorem vr_256_18 : zrx 256 18 = some (.return_, 0, 0) := by decide +kernel
theorem vr_263_0 : zrx 263 0 = some (.aload_n 0, 0, 0) := by decide +kernel
theorem vr_263_1 : zrx 263 1 = some (.aload_n 1, 0, 0) := by decide +kernel
theorem vr_263_2 : zrx 263 2 = some (.aconst_null, 0, 0) := by decide +kernel
theorem vr_263_3 : zrx 263 3 = some (.invokespecial 489, 267, 10) := by decide +kernel
theorem vr_263_6 : zrx 263 6 = some (.return_, 0, 0) := by decide +kernel
theorem vr_266_0 : zrx 266 0 = some (.aload_n 0, 0, 0) := by decide +kernel
theorem vr_266_1 : zrx 266 1 = some (.invokevirtual 335, 268, 10) := by decide +kernel
theorem vr_266_4 : zrx 266 4 = some (.iload_n 3, 0, 0) := by decide +kernel
theorem vr_266_5 : zrx 266 5 = some (.if_icmp .ne 23, 0, 0) := by decide +kernel
theorem vr_266_8 : zrx 266 8 = some (.aload_n 0, 0, 0) := by decide +kernel
theorem vr_266_9 : zrx 266 9 = some (.getfield 9, 0, 0) := by decide +kernel
theorem vr_266_12 : zrx 266 12 = some (.iconst 0, 0, 0) := by decide +kernel
theorem vr_266_13 : zrx 266 13 = some (.aload_n 1, 0, 0) := by decide +kernel
theorem vr_266_14 : zrx 266 14 = some (.iload_n 2, 0, 0) := by decide +kernel
theorem vr_266_15 : zrx 266 15 = some (.iload_n 3, 0, 0) := by decide +kernel
theorem vr_266_16 : zrx 266 16 = some (.ishl, 0, 0) := by decide +kernel
theorem vr_266_17 : zrx 266 17 = some (.aload_n 0, 0, 0) := by decide +kernel
theorem vr_266_18 : zrx 266 18 = some (.getfield 9, 0, 0) := by decide +kernel
theorem vr_266_21 : zrx 266 21 = some (.arraylength, 0, 0) := by decide +kernel
theorem vr_266_22 : zrx 266 22 = some (.invokestatic 212, 0, 5000) := by decide +kernel
theorem vr_266_25 : zrx 266 25 = some (.goto 18, 0, 0) := by decide +kernel
theorem vr_266_43 : zrx 266 43 = some (.return_, 0, 0) := by decide +kernel
theorem vr_267_0 : zrx 267 0 = some (.aload_n 0, 0, 0) := by decide +kernel
theorem vr_267_1 : zrx 267 1 = some (.invokespecial 1, 0, 6) := by decide +kernel
theorem vr_267_4 : zrx 267 4 = some (.aload_n 1, 0, 0) := by decide +kernel
theorem vr_267_5 : zrx 267 5 = some (.invokevirtual 552, 253, 20) := by decide +kernel
theorem vr_267_8 : zrx 267 8 = some (.astore_n 3, 0, 0) := by decide +kernel
theorem vr_267_9 : zrx 267 9 = some (.aload_n 1, 0, 0) := by decide +kernel
theorem vr_267_10 : zrx 267 10 = some (.invokevirtual 549, 278, 20) := by decide +kernel
theorem vr_267_13 : zrx 267 13 = some (.istore 4, 0, 0) := by decide +kernel
theorem vr_267_15 : zrx 267 15 = some (.aload_n 1, 0, 0) := by decide +kernel
theorem vr_267_16 : zrx 267 16 = some (.invokevirtual 1047, 254, 20) := by decide +kernel
theorem vr_267_19 : zrx 267 19 = some (.ifCond .eq 22, 0, 0) := by decide +kernel
theorem vr_267_22 : zrx 267 22 = some (.aload_n 0, 0, 0) := by decide +kernel
theorem vr_267_23 : zrx 267 23 = some (.iconst 0, 0, 0) := by decide +kernel
theorem vr_267_24 : zrx 267 24 = some (.putfield 15, 0, 1) := by decide +kernel
theorem vr_267_27 : zrx 267 27 = some (.aload_n 0, 0, 0) := by decide +kernel
theorem vr_267_28 : zrx 267 28 = some (.aload_n 3, 0, 0) := by decide +kernel
theorem vr_267_29 : zrx 267 29 = some (.iconst 0, 0, 0) := by decide +kernel
theorem vr_267_30 : zrx 267 30 = some (.iload 4, 0, 0) := by decide +kernel
theorem vr_267_32 : zrx 267 32 = some (.invokestatic 54, 314, 0) := by decide +kernel
theorem vr_267_35 : zrx 267 35 = some (.putfield 9, 0, 0) := by decide +kernel
theorem vr_267_38 : zrx 267 38 = some (.goto 59, 0, 0) := by decide +kernel
theorem vr_267_97 : zrx 267 97 = some (.return_, 0, 0) := by decide +kernel
theorem vr_273_0 : zrx 273 0 = some (.aload_n 0, 0, 0) := by decide +kernel
theorem vr_273_1 : zrx 273 1 = some (.bipush 16, 0, 0) := by decide +kernel
theorem vr_273_3 : zrx 273 3 = some (.invokespecial 1, 244, 20) := by decide +kernel
theorem vr_273_6 : zrx 273 6 = some (.return_, 0, 0) := by decide +kernel
theorem vr_274_0 : zrx 274 0 = some (.aload_n 0, 0, 0) := by decide +kernel
theorem vr_274_1 : zrx 274 1 = some (.aload_n 1, 0, 0) := by decide +kernel
theorem vr_274_2 : zrx 274 2 = some (.invokespecial 29, 249, 20) := by decide +kernel
theorem vr_274_5 : zrx 274 5 = some (.pop, 0, 0) := by decide +kernel
theorem vr_274_6 : zrx 274 6 = some (.aload_n 0, 0, 0) := by decide +kernel
theorem vr_274_7 : zrx 274 7 = some (.areturn, 0, 0) := by decide +kernel
theorem vr_275_0 : zrx 275 0 = some (.aload_n 0, 0, 0) := by decide +kernel
theorem vr_275_1 : zrx 275 1 = some (.iload_n 1, 0, 0) := by decide +kernel
theorem vr_275_2 : zrx 275 2 = some (.invokespecial 50, 251, 20) := by decide +kernel
theorem vr_275_5 : zrx 275 5 = some (.pop, 0, 0) := by decide +kernel
theorem vr_275_6 : zrx 275 6 = some (.aload_n 0, 0, 0) := by decide +kernel
theorem vr_275_7 : zrx 275 7 = some (.areturn, 0, 0) := by decide +kernel
theorem vr_277_0 : zrx 277 0 = some (.new 18, 0, 0) := by decide +kernel
theorem vr_277_3 : zrx 277 3 = some (.dup, 0, 0) := by decide +kernel
theorem vr_277_4 : zrx 277 4 = some (.aload_n 0, 0, 0) := by decide +kernel
theorem vr_277_5 : zrx 277 5 = some (.invokespecial 137, 263, 10) := by decide +kernel
theorem vr_277_8 : zrx 277 8 = some (.areturn, 0, 0) := by decide +kernel
theorem vr_278_0 : zrx 278 0 = some (.aload_n 0, 0, 0) := by decide +kernel
theorem vr_278_1 : zrx 278 1 = some (.invokespecial 343, 245, 20) := by decide +kernel
theorem vr_278_4 : zrx 278 4 = some (.ireturn, 0, 0) := by decide +kernel
theorem vr_280_0 : zrx 280 0 = some (.iload_n 0, 0, 0) := by decide +kernel
theorem vr_280_1 : zrx 280 1 = some (.sipush 255, 0, 0) := by decide +kernel
theorem vr_280_4 : zrx 280 4 = some (.if_icmp .gt 7, 0, 0) := by decide +kernel
theorem vr_280_7 : zrx 280 7 = some (.iconst 1, 0, 0) := by decide +kernel
theorem vr_280_8 : zrx 280 8 = some (.goto 4, 0, 0) := by decide +kernel
theorem vr_280_11 : zrx 280 11 = some (.iconst 0, 0, 0) := by decide +kernel
theorem vr_280_12 : zrx 280 12 = some (.ireturn, 0, 0) := by decide +kernel
theorem vr_312_0 : zrx 312 0 = some (.iload_n 1, 0, 0) := by decide +kernel
theorem vr_312_1 : zrx 312 1 = some (.aload_n 0, 0, 0) := by decide +kernel
theorem vr_312_2 : zrx 312 2 = some (.arraylength, 0, 0) := by decide +kernel
theorem vr_312_3 : zrx 312 3 = some (.if_icmp .ne 11, 0, 0) := by decide +kernel
theorem vr_312_14 : zrx 312 14 = some (.iload_n 1, 0, 0) := by decide +kernel
theorem vr_312_15 : zrx 312 15 = some (.newarray .byte, 101, 0) := by decide +kernel
theorem vr_312_17 : zrx 312 17 = some (.astore_n 2, 0, 0) := by decide +kernel
theorem vr_312_18 : zrx 312 18 = some (.aload_n 0, 0, 0) := by decide +kernel
theorem vr_312_19 : zrx 312 19 = some (.iconst 0, 0, 0) := by decide +kernel
theorem vr_312_20 : zrx 312 20 = some (.aload_n 2, 0, 0) := by decide +kernel
theorem vr_312_21 : zrx 312 21 = some (.iconst 0, 0, 0) := by decide +kernel
theorem vr_312_22 : zrx 312 22 = some (.aload_n 0, 0, 0) := by decide +kernel
theorem vr_312_23 : zrx 312 23 = some (.arraylength, 0, 0) := by decide +kernel
theorem vr_312_24 : zrx 312 24 = some (.iload_n 1, 0, 0) := by decide +kernel
theorem vr_312_25 : zrx 312 25 = some (.invokestatic 304, 262, 0) := by decide +kernel
theorem vr_312_28 : zrx 312 28 = some (.invokestatic 150, 0, 5000) := by decide +kernel
theorem vr_312_31 : zrx 312 31 = some (.aload_n 2, 0, 0) := by decide +kernel
theorem vr_312_32 : zrx 312 32 = some (.areturn, 0, 0) := by decide +kernel
theorem vr_313_0 : zrx 313 0 = some (.iload_n 1, 0, 0) := by decide +kernel
theorem vr_313_1 : zrx 313 1 = some (.iload_n 0, 0, 0) := by decide +kernel
theorem vr_313_2 : zrx 313 2 = some (.if_icmp .ge 35, 0, 0) := by decide +kernel
theorem vr_313_37 : zrx 313 37 = some (.return_, 0, 0) := by decide +kernel
theorem vr_314_0 : zrx 314 0 = some (.iload_n 1, 0, 0) := by decide +kernel
theorem vr_314_1 : zrx 314 1 = some (.ifCond .ne 9, 0, 0) := by decide +kernel
theorem vr_314_4 : zrx 314 4 = some (.iload_n 2, 0, 0) := by decide +kernel
theorem vr_314_5 : zrx 314 5 = some (.aload_n 0, 0, 0) := by decide +kernel
theorem vr_314_6 : zrx 314 6 = some (.arraylength, 0, 0) := by decide +kernel
theorem vr_314_7 : zrx 314 7 = some (.if_icmp .eq 10, 0, 0) := by decide +kernel
theorem vr_314_10 : zrx 314 10 = some (.aload_n 0, 0, 0) := by decide +kernel
theorem vr_314_11 : zrx 314 11 = some (.iload_n 1, 0, 0) := by decide +kernel
theorem vr_314_12 : zrx 314 12 = some (.iload_n 2, 0, 0) := by decide +kernel
theorem vr_314_13 : zrx 314 13 = some (.invokestatic 339, 315, 0) := by decide +kernel
theorem vr_314_16 : zrx 314 16 = some (.areturn, 0, 0) := by decide +kernel
theorem vr_314_17 : zrx 314 17 = some (.aload_n 0, 0, 0) := by decide +kernel
theorem vr_314_18 : zrx 314 18 = some (.invokevirtual 310, 1, 5000) := by decide +kernel
theorem vr_314_21 : zrx 314 21 = some (.checkcast 311, 101, 5000) := by decide +kernel
theorem vr_314_24 : zrx 314 24 = some (.areturn, 0, 0) := by decide +kernel
theorem vr_315_0 : zrx 315 0 = some (.iload_n 1, 0, 0) := by decide +kernel
theorem vr_315_1 : zrx 315 1 = some (.iload_n 2, 0, 0) := by decide +kernel
theorem vr_315_2 : zrx 315 2 = some (.invokestatic 343, 313, 0) := by decide +kernel
theorem vr_315_5 : zrx 315 5 = some (.iload_n 2, 0, 0) := by decide +kernel
theorem vr_315_6 : zrx 315 6 = some (.iload_n 1, 0, 0) := by decide +kernel
theorem vr_315_7 : zrx 315 7 = some (.isub, 0, 0) := by decide +kernel
theorem vr_315_8 : zrx 315 8 = some (.istore_n 3, 0, 0) := by decide +kernel
theorem vr_315_9 : zrx 315 9 = some (.iload_n 3, 0, 0) := by decide +kernel
theorem vr_315_10 : zrx 315 10 = some (.newarray .byte, 101, 0) := by decide +kernel
theorem vr_315_12 : zrx 315 12 = some (.astore 4, 0, 0) := by decide +kernel
theorem vr_315_14 : zrx 315 14 = some (.aload_n 0, 0, 0) := by decide +kernel
theorem vr_315_15 : zrx 315 15 = some (.iload_n 1, 0, 0) := by decide +kernel
theorem vr_315_16 : zrx 315 16 = some (.aload 4, 0, 0) := by decide +kernel
theorem vr_315_18 : zrx 315 18 = some (.iconst 0, 0, 0) := by decide +kernel
theorem vr_315_19 : zrx 315 19 = some (.aload_n 0, 0, 0) := by decide +kernel
theorem vr_315_20 : zrx 315 20 = some (.arraylength, 0, 0) := by decide +kernel
theorem vr_315_21 : zrx 315 21 = some (.iload_n 1, 0, 0) := by decide +kernel
theorem vr_315_22 : zrx 315 22 = some (.isub, 0, 0) := by decide +kernel
theorem vr_315_23 : zrx 315 23 = some (.iload_n 3, 0, 0) := by decide +kernel
theorem vr_315_24 : zrx 315 24 = some (.invokestatic 304, 262, 0) := by decide +kernel
theorem vr_315_27 : zrx 315 27 = some (.invokestatic 150, 0, 5000) := by decide +kernel
theorem vr_315_30 : zrx 315 30 = some (.aload 4, 0, 0) := by decide +kernel
theorem vr_315_32 : zrx 315 32 = some (.areturn, 0, 0) := by decide +kernel
theorem C_sbi (nf : Nat) (B : Nat) (h : List zC) (u : Nat) (hB : B < h.length) (h3 : gF h B 3 = some (.int 0)) : zL zrx zi nf 244 0 [(0, .ref B), (1, .int 16)] [] h u (fun o h2 _ => o = .inl none ∧ KP B h h2 ∧ BX B h2 B h.length 16 0 (fun _ => 0)) := by
  refine zSaload (m := 1) (k := 0) vr_244_0 rfl rfl rfl ?_
  refine zSobj vr_244_1 rfl ?_
  refine zScstV (v := .int (Int32.ofNat 1)) vr_244_4 rfl rfl ?_
  refine zSb1 (f := fun x => decide (x = 0)) (off := 18) (t := 25) vr_244_7 rfl rfl rfl (fun x1765 e1765 q1765 => ?_) (fun x1765 e1765 q1765 => ?_)
  · cases e1765
    have c1765 := of_decide_eq_true q1765
    exact absurd c1765 (by decide)
  · cases e1765
    have c1765 := ndc q1765
    refine zSaload (m := 1) (k := 0) vr_244_10 rfl rfl rfl ?_
    refine zSiload (m := 1) (k := 1) vr_244_11 rfl rfl rfl (fun x1767 e1767 => ?_)
    cases e1767
    refine zLnarr vr_244_12 rfl (fun m1768 k1768 u1768 e1768 n1768 g1768 => ?_)
    cases e1768
    refine zLput vr_244_14 rfl (fun p1769 k1769 e1769 t1769 g1769 => ?_)
    cases e1769
    refine zSaload (m := 1) (k := 0) vr_244_17 rfl rfl rfl ?_
    refine zSp0 (pc' := 19) (st' := .int (0) :: _) vr_244_18 rfl rfl ?_
    refine zLput vr_244_19 rfl (fun p1772 k1772 e1772 t1772 g1772 => ?_)
    cases e1772
    refine zSgo (t := 38) vr_244_22 rfl rfl ?_
    refine zSvoid vr_244_38 rfl ?_
    have l := g1768.len
    have a := (KP.new g1768 (Nat.le_of_lt hB)).trans ((KP.put g1769 (Nat.le_refl B)).trans (KP.put g1772 (Nat.le_refl B)))
    have e3 : gF k1772 B 3 = some (.int 0) := by
      rw [g1772.2.1, if_neg (by omega), g1769.2.1, if_neg (by omega), g1768.ext.fld hB]
      exact h3
    refine ⟨rfl, a, ?_, ?_, e3, ?_, ?_, by omega, by omega, fun i hi => absurd hi (Nat.not_lt_zero i), Nat.le_refl _, Nat.le_of_lt hB, by omega⟩
    · rw [g1772.2.1, if_neg (by omega), g1769.2.1, if_pos ⟨rfl, rfl⟩]
    · rw [g1772.2.1, if_pos ⟨rfl, rfl⟩]
    · rw [g1772.2.2.2, g1769.2.2.2, g1768.cn.1, List.length_replicate]
      rfl
    · rw [g1772.2.2.1, g1769.2.2.1, g1768.cn.2]
theorem C_sbn (nf : Nat) (B : Nat) (h : List zC) (u : Nat) (hB : B < h.length) (h3 : gF h B 3 = some (.int 0)) : zL zrx zi nf 273 0 [(0, .ref B)] [] h u (fun o h2 _ => o = .inl none ∧ KP B h h2 ∧ BX B h2 B h.length 16 0 (fun _ => 0)) := by
  refine zSaload (m := 1) (k := 0) vr_273_0 rfl rfl rfl ?_
  refine zSp0 (pc' := 3) (st' := .int (16) :: _) vr_273_1 rfl rfl ?_
  refine zScall vr_273_3 rfl rfl rfl (fun m1777 _ => C_sbi _ _ _ _ hB h3) (fun v1777 h1777 u1777 q1777 => ?_) (fun E1777 h1777 u1777 q1777 => ?_)
  · obtain ⟨z1777, w1, w2⟩ := q1777
    cases z1777
    show zL zrx zi _ 273 6 [(0, _)] [] _ _ _
    refine zSvoid vr_273_6 rfl ?_
    exact ⟨rfl, w1, w2⟩
  · obtain ⟨z, -⟩ := q1777
    cases z
theorem C_nl (nf : Nat) (a g p : Int32) (h : List zC) (u : Nat) (s1 : 0 < (a + mxI g p).toInt) (s2 : (a + mxI g p).toInt < 1000) : zL zrx zi nf 317 0 [(0, .int a), (1, .int g), (2, .int p)] [] h u (fun o h2 _ => h2 = h ∧ o = .inl (some (.int (a + mxI g p)))) := by
  refine zSiload (m := 1) (k := 0) vr_317_0 rfl rfl rfl (fun x1779 e1779 => ?_)
  cases e1779
  refine zSiload (m := 1) (k := 1) vr_317_1 rfl rfl rfl (fun x1780 e1780 => ?_)
  cases e1780
  refine zSiload (m := 1) (k := 2) vr_317_2 rfl rfl rfl (fun x1781 e1781 => ?_)
  cases e1781
  refine zScall vr_317_3 rfl rfl rfl (fun m1782 _ => C_mxI _ _ _ _ _) (fun v1782 h1782 u1782 q1782 => ?_) (fun E1782 h1782 u1782 q1782 => ?_)
  · obtain ⟨eh1782, z1782⟩ := q1782
    subst eh1782
    cases z1782
    show zL zrx zi _ 317 6 [(0, _), (1, _), (2, _)] [_, _] _ _ _
    refine zS2 (f := fun x y => .int (x + y)) vr_317_6 rfl rfl (fun x1783 y1783 e1783 f1783 => ?_)
    cases e1783
    cases f1783
    refine zSistore (m := 1) (k := 3) vr_317_7 rfl rfl (fun x1784 e1784 => ?_)
    cases e1784
    show zL zrx zi _ 317 8 [(3, _), (0, _), (1, _), (2, _)] [] _ _ _
    refine zSp0 (pc' := 9) (st' := .int (0) :: _) vr_317_8 rfl rfl ?_
    refine zSiload (m := 1) (k := 3) vr_317_9 rfl rfl rfl (fun x1786 e1786 => ?_)
    cases e1786
    refine zSb2 (f := fun x y => decide (y ≤ x)) (off := 11) (t := 21) vr_317_10 rfl rfl rfl (fun x1787 y1787 e1787 f1787 q1787 => ?_) (fun x1787 y1787 e1787 f1787 q1787 => ?_)
    · cases e1787
      cases f1787
      have c1787 := of_decide_eq_true q1787
      exfalso
      have z0 : (0 : Int32).toInt = 0 := rfl
      first
        | (have y := c1787
           rw [i32_le] at y
           omega)
        | (have y := c1722
           rw [i32_lt] at y
           have zm : (Int32.ofNat 2147483639).toInt = 2147483639 := rfl
           omega)
    · cases e1787
      cases f1787
      have c1787 := ndc q1787
      refine zSiload (m := 1) (k := 3) vr_317_13 rfl rfl rfl (fun x1788 e1788 => ?_)
      cases e1788
      refine zScstV (v := .int (Int32.ofNat 2147483639)) vr_317_14 rfl rfl ?_
      refine zSb2 (f := fun x y => decide (y < x)) (off := 5) (t := 21) vr_317_16 rfl rfl rfl (fun x1790 y1790 e1790 f1790 q1790 => ?_) (fun x1790 y1790 e1790 f1790 q1790 => ?_)
      · cases e1790
        cases f1790
        have c1790 := of_decide_eq_true q1790
        exfalso
        have z0 : (0 : Int32).toInt = 0 := rfl
        first
          | (have y := c1787
             rw [i32_le] at y
             omega)
          | (have y := c1790
             rw [i32_lt] at y
             have zm : (Int32.ofNat 2147483639).toInt = 2147483639 := rfl
             omega)
      · cases e1790
        cases f1790
        have c1790 := ndc q1790
        refine zSiload (m := 1) (k := 3) vr_317_19 rfl rfl rfl (fun x1791 e1791 => ?_)
        cases e1791
        refine zLiret vr_317_20 rfl (fun x1792 e1792 => ?_)
        cases e1792
        exact ⟨rfl, rfl⟩
  · obtain ⟨-, z⟩ := q1782
    cases z
theorem C_ncap (nf : Nat) (mn : Nat) (h : List zC) (u : Nat) {m B W cap n : Nat} {f : Nat → Int32} (bx : BX m h B W cap n f) (hm : mn ≤ 61) (hlt : cap < mn) : zL zrx zi nf 247 0 [(0, .ref B), (1, .int (Int32.ofNat mn))] [] h u (fun o h2 _ => h2 = h ∧ ∃ nc : Nat, o = .inl (some (.int (Int32.ofNat nc))) ∧ mn ≤ nc ∧ nc ≤ 200) := by
  refine zSaload (m := 1) (k := 0) vr_247_0 rfl rfl rfl ?_
  refine zLget vr_247_1 rfl (fun p1794 w1794 e1794 t1794 g1794 => ?_)
  cases e1794
  first | (rw [bx.1] at g1794; cases g1794) | (rw [bx.2.1] at g1794; cases g1794) | skip
  refine zLlen vr_247_4 rfl (fun p1795 m1795 e1795 g1795 => ?_)
  cases e1795
  have en := g1795
  rw [bx.2.2.2.1] at en
  cases en
  refine zSistore (m := 1) (k := 2) vr_247_5 rfl rfl (fun x1796 e1796 => ?_)
  cases e1796
  show zL zrx zi _ 247 6 [(2, _), (0, _), (1, _)] [] _ _ _
  refine zSiload (m := 1) (k := 1) vr_247_6 rfl rfl rfl (fun x1797 e1797 => ?_)
  cases e1797
  refine zSaload (m := 1) (k := 0) vr_247_7 rfl rfl rfl ?_
  refine zLget vr_247_8 rfl (fun p1799 w1799 e1799 t1799 g1799 => ?_)
  cases e1799
  first | (rw [bx.1] at g1799; cases g1799) | (rw [bx.2.1] at g1799; cases g1799) | skip
  refine zS2 (f := fun x y => .int (x <<< (y &&& 31))) vr_247_11 rfl rfl (fun x1800 y1800 e1800 f1800 => ?_)
  cases e1800
  cases f1800
  rw [(sh0' mn (by omega)).2]
  refine zSistore (m := 1) (k := 3) vr_247_12 rfl rfl (fun x1801 e1801 => ?_)
  cases e1801
  show zL zrx zi _ 247 13 [(3, _), (2, _), (0, _), (1, _)] [] _ _ _
  refine zSiload (m := 1) (k := 3) vr_247_13 rfl rfl rfl (fun x1802 e1802 => ?_)
  cases e1802
  refine zSiload (m := 1) (k := 2) vr_247_14 rfl rfl rfl (fun x1803 e1803 => ?_)
  cases e1803
  refine zS2 (f := fun x y => .int (x - y)) vr_247_15 rfl rfl (fun x1804 y1804 e1804 f1804 => ?_)
  cases e1804
  cases f1804
  refine zSistore (m := 2) (k := 4) vr_247_16 rfl rfl (fun x1805 e1805 => ?_)
  cases e1805
  show zL zrx zi _ 247 18 [(4, _), (3, _), (2, _), (0, _), (1, _)] [] _ _ _
  refine zSiload (m := 1) (k := 2) vr_247_18 rfl rfl rfl (fun x1806 e1806 => ?_)
  cases e1806
  refine zSiload (m := 2) (k := 4) vr_247_19 rfl rfl rfl (fun x1807 e1807 => ?_)
  cases e1807
  refine zSiload (m := 1) (k := 2) vr_247_21 rfl rfl rfl (fun x1808 e1808 => ?_)
  cases e1808
  refine zSp0 (pc' := 23) (st' := .int (2) :: _) vr_247_22 rfl rfl ?_
  refine zSaload (m := 1) (k := 0) vr_247_23 rfl rfl rfl ?_
  refine zLget vr_247_24 rfl (fun p1811 w1811 e1811 t1811 g1811 => ?_)
  cases e1811
  first | (rw [bx.1] at g1811; cases g1811) | (rw [bx.2.1] at g1811; cases g1811) | skip
  refine zS2 (f := fun x y => .int (x <<< (y &&& 31))) vr_247_27 rfl rfl (fun x1812 y1812 e1812 f1812 => ?_)
  cases e1812
  cases f1812
  refine zS2 (f := fun x y => .int (x + y)) vr_247_28 rfl rfl (fun x1813 y1813 e1813 f1813 => ?_)
  cases e1813
  cases f1813
  have tab := ncap_tab cap (by omega) mn (by omega) hlt
  have nc : cap + max (mn - cap) (cap + 2) < 1000 := by omega
  have s1 : 0 < (Int32.ofNat cap + mxI (Int32.ofNat mn - Int32.ofNat cap) (Int32.ofNat cap + ((2 : Int32) <<< ((0 : Int32) &&& 31)))).toInt := by
    rw [tab, (toNat_ofNat (by omega)).2]
    omega
  have s2 : (Int32.ofNat cap + mxI (Int32.ofNat mn - Int32.ofNat cap) (Int32.ofNat cap + ((2 : Int32) <<< ((0 : Int32) &&& 31)))).toInt < 1000 := by
    rw [tab, (toNat_ofNat (by omega)).2]
    omega
  refine zScall vr_247_29 rfl rfl rfl (fun m1814 _ => C_nl _ _ _ _ _ _ s1 s2) (fun v1814 h1814 u1814 q1814 => ?_) (fun E1814 h1814 u1814 q1814 => ?_)
  · obtain ⟨eh1814, z1814⟩ := q1814
    replace eh1814 := eh1814.symm
    subst eh1814
    cases z1814
    show zL zrx zi _ 247 32 [(4, _), (3, _), (2, _), (0, _), (1, _)] [_] _ _ _
    rw [tab]
    refine zSistore (m := 2) (k := 5) vr_247_32 rfl rfl (fun x1815 e1815 => ?_)
    cases e1815
    show zL zrx zi _ 247 34 [(5, _), (4, _), (3, _), (2, _), (0, _), (1, _)] [] _ _ _
    refine zSiload (m := 2) (k := 5) vr_247_34 rfl rfl rfl (fun x1816 e1816 => ?_)
    cases e1816
    refine zScstV (v := .int (Int32.ofNat 2147483647)) vr_247_36 rfl rfl ?_
    refine zSb2 (f := fun x y => decide (¬ x = y)) (off := 13) (t := 51) vr_247_38 rfl rfl rfl (fun x1818 y1818 e1818 f1818 q1818 => ?_) (fun x1818 y1818 e1818 f1818 q1818 => ?_)
    · cases e1818
      cases f1818
      have c1818 := of_decide_eq_true q1818
      refine zSiload (m := 2) (k := 5) vr_247_51 rfl rfl rfl (fun x1819 e1819 => ?_)
      cases e1819
      refine zSaload (m := 1) (k := 0) vr_247_53 rfl rfl rfl ?_
      refine zLget vr_247_54 rfl (fun p1821 w1821 e1821 t1821 g1821 => ?_)
      cases e1821
      first | (rw [bx.1] at g1821; cases g1821) | (rw [bx.2.1] at g1821; cases g1821) | skip
      refine zS2 (f := fun x y => .int (x >>> (y &&& 31))) vr_247_57 rfl rfl (fun x1822 y1822 e1822 f1822 => ?_)
      cases e1822
      cases f1822
      refine zLiret vr_247_58 rfl (fun x1823 e1823 => ?_)
      cases e1823
      refine ⟨rfl, cap + max (mn - cap) (cap + 2), ?_, by omega, by omega⟩
      rw [(sh0' _ (by omega)).1]
    · cases e1818
      cases f1818
      have c1818 := ndc q1818
      exact zLnone (by decide +kernel)
  · obtain ⟨-, z⟩ := q1814
    cases z
theorem C_cp9 (nf : Nat) (W r : Nat) (h : List zC) (u : Nat) {cap : Nat} (hN : gN h W = some cap) (hlt : cap < r) (hr : r ≤ 1000) : zL zrx zi nf 312 0 [(0, .ref W), (1, .int (Int32.ofNat r))] [] h u (fun o h2 _ => o = .inl (some (.ref h.length)) ∧ KP h.length h h2 ∧ gN h2 h.length = some r ∧ gT h2 h.length = some 101 ∧ ∀ i, i < cap → gF h2 h.length i = gF h W i) := by
  refine zSiload (m := 1) (k := 1) vr_312_0 rfl rfl rfl (fun x1824 e1824 => ?_)
  cases e1824
  refine zSaload (m := 1) (k := 0) vr_312_1 rfl rfl rfl ?_
  refine zLlen vr_312_2 rfl (fun p1826 m1826 e1826 g1826 => ?_)
  cases e1826
  have en := g1826
  rw [hN] at en
  cases en
  refine zSb2 (f := fun x y => decide (¬ x = y)) (off := 11) (t := 14) vr_312_3 rfl rfl rfl (fun x1827 y1827 e1827 f1827 q1827 => ?_) (fun x1827 y1827 e1827 f1827 q1827 => ?_)
  · cases e1827
    cases f1827
    have c1827 := of_decide_eq_true q1827
    refine zSiload (m := 1) (k := 1) vr_312_14 rfl rfl rfl (fun x1828 e1828 => ?_)
    cases e1828
    refine zLnarr vr_312_15 rfl (fun m1829 k1829 u1829 e1829 n1829 g1829 => ?_)
    cases e1829
    refine zSastore (m := 1) (k := 2) vr_312_17 rfl rfl ?_
    show zL zrx zi _ 312 18 [(2, _), (0, _), (1, _)] [] _ _ _
    refine zSaload (m := 1) (k := 0) vr_312_18 rfl rfl rfl ?_
    refine zSp0 (pc' := 20) (st' := .int (0) :: _) vr_312_19 rfl rfl ?_
    refine zSaload (m := 1) (k := 2) vr_312_20 rfl rfl rfl ?_
    refine zSp0 (pc' := 22) (st' := .int (0) :: _) vr_312_21 rfl rfl ?_
    refine zSaload (m := 1) (k := 0) vr_312_22 rfl rfl rfl ?_
    refine zLlen vr_312_23 rfl (fun p1836 m1836 e1836 g1836 => ?_)
    cases e1836
    have en2 := g1836
    rw [(g1829.ext.T (gN_lt hN)).2, hN] at en2
    cases en2
    refine zSiload (m := 1) (k := 1) vr_312_24 rfl rfl rfl (fun x1837 e1837 => ?_)
    cases e1837
    refine zScall vr_312_25 rfl rfl rfl (fun m1838 _ => C_mnI _ _ _ _ _) (fun v1838 h1838 u1838 q1838 => ?_) (fun E1838 h1838 u1838 q1838 => ?_)
    · obtain ⟨eh1838, z1838⟩ := q1838
      subst eh1838
      cases z1838
      show zL zrx zi _ 312 28 [(2, _), (0, _), (1, _)] [_, _, _, _, _] _ _ _
      refine zLarc vr_312_28 rfl (fun p1839 d1839 x1839 y1839 m1839 k1839 e1839 f1839 i1839 j1839 l1839 n1839 o1839 s1839 c1839 => ?_)
      cases e1839
      cases f1839
      cases i1839
      cases j1839
      cases l1839
      refine zSaload (m := 1) (k := 2) vr_312_31 rfl rfl rfl ?_
      refine zSaret vr_312_32 rfl ?_
      have lW := gN_lt hN
      have z0 : (0 : Int32).toNatClampNeg = 0 := rfl
      have hm : mnI (Int32.ofNat cap) (Int32.ofNat r) = Int32.ofNat cap := by
        unfold mnI
        rw [if_neg (fun z => by rw [(on_lt (a := r) (b := cap) (by omega) (by omega)).1] at z; omega)]
      have gc := c1839
      rw [hm, z0, (toNat_ofNat (show cap < 2147483648 by omega)).1] at gc
      refine ⟨rfl, (KP.new g1829 (Nat.le_refl _)).trans (KP.cpy gc (Nat.le_refl _)), ?_, ?_, fun i hi => ?_⟩
      · rw [gc.2.2.2, g1829.cn.1, List.length_replicate, (toNat_ofNat (show r < 2147483648 by omega)).1]
      · rw [gc.2.2.1, g1829.cn.2]
      · rw [gc.2.1, if_pos ⟨rfl, Nat.zero_le _, by omega⟩, Nat.zero_add, Nat.sub_zero]
        exact g1829.ext.fld lW i
    · obtain ⟨-, z⟩ := q1838
      cases z
  · cases e1827
    cases f1827
    have c1827 := ndc q1827
    exact absurd ((on_eq (by omega) (by omega)).mp (Decidable.not_not.mp c1827)) (by omega)
theorem C_ens (nf : Nat) (mn : Nat) (h : List zC) (u : Nat) {m B W cap n : Nat} {f : Nat → Int32} (bx : BX m h B W cap n f) (hm : mn ≤ 61) : zL zrx zi nf 246 0 [(0, .ref B), (1, .int (Int32.ofNat mn))] [] h u (fun o h2 _ => o = .inl none ∧ KP m h h2 ∧ ∃ W2 cap2 : Nat, BX m h2 B W2 cap2 n f ∧ mn ≤ cap2) := by
  refine zSaload (m := 1) (k := 0) vr_246_0 rfl rfl rfl ?_
  refine zLget vr_246_1 rfl (fun p1843 w1843 e1843 t1843 g1843 => ?_)
  cases e1843
  first | (rw [bx.1] at g1843; cases g1843) | (rw [bx.2.1] at g1843; cases g1843) | skip
  refine zLlen vr_246_4 rfl (fun p1844 m1844 e1844 g1844 => ?_)
  cases e1844
  have en := g1844
  rw [bx.2.2.2.1] at en
  cases en
  refine zSaload (m := 1) (k := 0) vr_246_5 rfl rfl rfl ?_
  refine zLget vr_246_6 rfl (fun p1846 w1846 e1846 t1846 g1846 => ?_)
  cases e1846
  first | (rw [bx.1] at g1846; cases g1846) | (rw [bx.2.1] at g1846; cases g1846) | skip
  refine zS2 (f := fun x y => .int (x >>> (y &&& 31))) vr_246_9 rfl rfl (fun x1847 y1847 e1847 f1847 => ?_)
  cases e1847
  cases f1847
  rw [(sh0' cap (by have := bx.2.2.2.2.2.2.1; omega)).1]
  refine zSistore (m := 1) (k := 2) vr_246_10 rfl rfl (fun x1848 e1848 => ?_)
  cases e1848
  show zL zrx zi _ 246 11 [(2, _), (0, _), (1, _)] [] _ _ _
  refine zSiload (m := 1) (k := 1) vr_246_11 rfl rfl rfl (fun x1849 e1849 => ?_)
  cases e1849
  refine zSiload (m := 1) (k := 2) vr_246_12 rfl rfl rfl (fun x1850 e1850 => ?_)
  cases e1850
  refine zS2 (f := fun x y => .int (x - y)) vr_246_13 rfl rfl (fun x1851 y1851 e1851 f1851 => ?_)
  cases e1851
  cases f1851
  refine zSb1 (f := fun x => decide (x ≤ 0)) (off := 24) (t := 38) vr_246_14 rfl rfl rfl (fun x1852 e1852 q1852 => ?_) (fun x1852 e1852 q1852 => ?_)
  · cases e1852
    have c1852 := of_decide_eq_true q1852
    refine zSvoid vr_246_38 rfl ?_
    first
      | (have hle : mn ≤ cap := by
           have y := c1852
           have z0 : (0 : Int32).toInt = 0 := rfl
           have b7 := bx.2.2.2.2.2.2.1
           rw [i32_le, on_sub (by omega) (by omega)] at y
           omega
         exact ⟨rfl, KP.refl _ _, W, cap, bx, hle⟩)
      | (obtain ⟨b1, b2, b3, b4, b5, b6, b7, b8, b9, b10, b11⟩ := bx
         have lB := gF_lt b1
         have lm : m ≤ h.length := by omega
         have kp := KP.put g1758 (Nat.le_refl B)
         have old : ∀ x k, x < h.length → ¬ (x = B ∧ k = 0) → gF k1758 x k = gF h x k := fun x k hx n => by
           rw [g1758.2.1, if_neg n, (w2.2 x hx).1 k]
         refine ⟨rfl, ⟨by rw [g1758.1]; exact w2.1, fun x hx => ⟨fun k => old x k (by omega) (by omega), by rw [g1758.2.2.1]; exact (w2.2 x (by omega)).2.1, by rw [g1758.2.2.2]; exact (w2.2 x (by omega)).2.2⟩⟩, h.length, nc, ⟨?_, ?_, ?_, ?_, ?_, by omega, by omega, fun i hi => ?_, b9, lm, by omega⟩, by omega⟩
         · rw [g1758.2.1, if_pos ⟨rfl, rfl⟩]
         · rw [old B 1 lB (by omega)]
           exact b2
         · rw [old B 3 lB (by omega)]
           exact b3
         · rw [g1758.2.2.2]
           exact w3
         · rw [g1758.2.2.1]
           exact w4
         · rw [g1758.2.1, if_neg (by omega), w5 i (by omega)]
           exact b8 i hi)
  · cases e1852
    have c1852 := ndc q1852
    have hlt : cap < mn := by
      have y := c1852
      have z0 : (0 : Int32).toInt = 0 := rfl
      have b7 := bx.2.2.2.2.2.2.1
      rw [i32_le, on_sub (by omega) (by omega)] at y
      omega
    refine zSaload (m := 1) (k := 0) vr_246_17 rfl rfl rfl ?_
    refine zSaload (m := 1) (k := 0) vr_246_18 rfl rfl rfl ?_
    refine zLget vr_246_19 rfl (fun p1856 w1856 e1856 t1856 g1856 => ?_)
    cases e1856
    first | (rw [bx.1] at g1856; cases g1856) | (rw [bx.2.1] at g1856; cases g1856) | skip
    refine zSaload (m := 1) (k := 0) vr_246_22 rfl rfl rfl ?_
    refine zSiload (m := 1) (k := 1) vr_246_23 rfl rfl rfl (fun x1858 e1858 => ?_)
    cases e1858
    refine zScall vr_246_24 rfl rfl rfl (fun m1859 _ => C_ncap _ _ _ _ bx hm hlt) (fun v1859 h1859 u1859 q1859 => ?_) (fun E1859 h1859 u1859 q1859 => ?_)
    · obtain ⟨eh1859, nc, z1859, n1, n2⟩ := q1859
      replace eh1859 := eh1859.symm
      subst eh1859
      cases z1859
      show zL zrx zi _ 246 27 [(2, _), (0, _), (1, _)] [_, _, _] _ _ _
      refine zSaload (m := 1) (k := 0) vr_246_27 rfl rfl rfl ?_
      refine zLget vr_246_28 rfl (fun p1861 w1861 e1861 t1861 g1861 => ?_)
      cases e1861
      first | (rw [bx.1] at g1861; cases g1861) | (rw [bx.2.1] at g1861; cases g1861) | skip
      refine zS2 (f := fun x y => .int (x <<< (y &&& 31))) vr_246_31 rfl rfl (fun x1862 y1862 e1862 f1862 => ?_)
      cases e1862
      cases f1862
      rw [(sh0' nc (by omega)).2]
      refine zScall vr_246_32 rfl rfl rfl (fun m1863 _ => C_cp9 _ _ _ _ _ bx.2.2.2.1 (by omega) (by omega)) (fun v1863 h1863 u1863 q1863 => ?_) (fun E1863 h1863 u1863 q1863 => ?_)
      · obtain ⟨z1863, w2, w3, w4, w5⟩ := q1863
        cases z1863
        show zL zrx zi _ 246 35 [(2, _), (0, _), (1, _)] [_, _] _ _ _
        refine zLput vr_246_35 rfl (fun p1864 k1864 e1864 t1864 g1864 => ?_)
        cases e1864
        refine zSvoid vr_246_38 rfl ?_
        first
          | (have hle : mn ≤ cap := by
               have y := c1852
               have z0 : (0 : Int32).toInt = 0 := rfl
               have b7 := bx.2.2.2.2.2.2.1
               rw [i32_le, on_sub (by omega) (by omega)] at y
               omega
             exact ⟨rfl, KP.refl _ _, W, cap, bx, hle⟩)
          | (obtain ⟨b1, b2, b3, b4, b5, b6, b7, b8, b9, b10, b11⟩ := bx
             have lB := gF_lt b1
             have lm : m ≤ h.length := by omega
             have kp := KP.put g1864 (Nat.le_refl B)
             have old : ∀ x k, x < h.length → ¬ (x = B ∧ k = 0) → gF k1864 x k = gF h x k := fun x k hx n => by
               rw [g1864.2.1, if_neg n, (w2.2 x hx).1 k]
             refine ⟨rfl, ⟨by rw [g1864.1]; exact w2.1, fun x hx => ⟨fun k => old x k (by omega) (by omega), by rw [g1864.2.2.1]; exact (w2.2 x (by omega)).2.1, by rw [g1864.2.2.2]; exact (w2.2 x (by omega)).2.2⟩⟩, h.length, nc, ⟨?_, ?_, ?_, ?_, ?_, by omega, by omega, fun i hi => ?_, b9, lm, by omega⟩, by omega⟩
             · rw [g1864.2.1, if_pos ⟨rfl, rfl⟩]
             · rw [old B 1 lB (by omega)]
               exact b2
             · rw [old B 3 lB (by omega)]
               exact b3
             · rw [g1864.2.2.2]
               exact w3
             · rw [g1864.2.2.1]
               exact w4
             · rw [g1864.2.1, if_neg (by omega), w5 i (by omega)]
               exact b8 i hi)
      · obtain ⟨z, -⟩ := q1863
        cases z
    · obtain ⟨-, _, z, -⟩ := q1859
      cases z
theorem C_gby (nf : Nat) (s W : Nat) (h : List zC) (u : Nat) {T : Nat → Int32} {L b : Nat} (d : SB T L s b h) : zL zrx zi nf 266 0 [(0, .ref s), (1, .ref W), (2, .int (Int32.ofNat 0)), (3, .int 0)] [] h u (fun o h2 _ => o = .inl none ∧ hCpy h h2 b 0 W 0 L) := by
  refine zSaload (m := 1) (k := 0) vr_266_0 rfl rfl rfl ?_
  refine zScall vr_266_1 rfl rfl rfl (fun m1867 _ => C_coder _ _ _ _ d.2.1) (fun v1867 h1867 u1867 q1867 => ?_) (fun E1867 h1867 u1867 q1867 => ?_)
  · obtain ⟨eh1867, z1867⟩ := q1867
    replace eh1867 := eh1867.symm
    subst eh1867
    cases z1867
    show zL zrx zi _ 266 4 [(0, _), (1, _), (2, _), (3, _)] [_] _ _ _
    refine zSiload (m := 1) (k := 3) vr_266_4 rfl rfl rfl (fun x1868 e1868 => ?_)
    cases e1868
    refine zSb2 (f := fun x y => decide (¬ x = y)) (off := 23) (t := 28) vr_266_5 rfl rfl rfl (fun x1869 y1869 e1869 f1869 q1869 => ?_) (fun x1869 y1869 e1869 f1869 q1869 => ?_)
    · cases e1869
      cases f1869
      have c1869 := of_decide_eq_true q1869
      exact absurd rfl c1869
    · cases e1869
      cases f1869
      have c1869 := ndc q1869
      refine zSaload (m := 1) (k := 0) vr_266_8 rfl rfl rfl ?_
      refine zLget vr_266_9 rfl (fun p1871 w1871 e1871 t1871 g1871 => ?_)
      cases e1871
      first | (rw [d.1] at g1871; cases g1871) | skip
      refine zSp0 (pc' := 13) (st' := .int (0) :: _) vr_266_12 rfl rfl ?_
      refine zSaload (m := 1) (k := 1) vr_266_13 rfl rfl rfl ?_
      refine zSiload (m := 1) (k := 2) vr_266_14 rfl rfl rfl (fun x1874 e1874 => ?_)
      cases e1874
      refine zSiload (m := 1) (k := 3) vr_266_15 rfl rfl rfl (fun x1875 e1875 => ?_)
      cases e1875
      refine zS2 (f := fun x y => .int (x <<< (y &&& 31))) vr_266_16 rfl rfl (fun x1876 y1876 e1876 f1876 => ?_)
      cases e1876
      cases f1876
      refine zSaload (m := 1) (k := 0) vr_266_17 rfl rfl rfl ?_
      refine zLget vr_266_18 rfl (fun p1878 w1878 e1878 t1878 g1878 => ?_)
      cases e1878
      first | (rw [d.1] at g1878; cases g1878) | skip
      refine zLlen vr_266_21 rfl (fun p1879 m1879 e1879 g1879 => ?_)
      cases e1879
      have en := g1879
      rw [d.2.2.1] at en
      cases en
      refine zLarc vr_266_22 rfl (fun p1880 d1880 x1880 y1880 m1880 k1880 e1880 f1880 i1880 j1880 l1880 n1880 o1880 s1880 c1880 => ?_)
      cases e1880
      cases f1880
      cases i1880
      cases j1880
      cases l1880
      refine zSgo (t := 43) vr_266_25 rfl rfl ?_
      refine zSvoid vr_266_43 rfl ?_
      have gc := c1880
      have l60 := d.l60
      rw [show (0 : Int32).toNatClampNeg = 0 from rfl, show (Int32.ofNat 0 <<< ((0 : Int32) &&& 31)).toNatClampNeg = 0 from rfl, (toNat_ofNat (show L < 2147483648 by omega)).1] at gc
      exact ⟨rfl, gc⟩
  · obtain ⟨-, z⟩ := q1867
    cases z
theorem C_ifn (nf : Nat) (B s : Nat) (h : List zC) (u : Nat) {T : Nat → Int32} {L b : Nat} (hB : gF h B 1 = some (.int 0)) (d : SB T L s b h) : zL zrx zi nf 255 0 [(0, .ref B), (1, .ref s)] [] h u (fun o h2 _ => h2 = h ∧ o = .inl none) := by
  refine zScstV (v := .int (Int32.ofNat 1)) vr_255_0 rfl rfl ?_
  refine zSb1 (f := fun x => decide (x = 0)) (off := 18) (t := 21) vr_255_3 rfl rfl rfl (fun x1884 e1884 q1884 => ?_) (fun x1884 e1884 q1884 => ?_)
  · cases e1884
    have c1884 := of_decide_eq_true q1884
    refine zSvoid vr_255_21 rfl ?_
    first
      | exact ⟨rfl, rfl⟩
      | exact absurd c1884 (by decide)
  · cases e1884
    have c1884 := ndc q1884
    refine zSaload (m := 1) (k := 0) vr_255_6 rfl rfl rfl ?_
    refine zLget vr_255_7 rfl (fun p1887 w1887 e1887 t1887 g1887 => ?_)
    cases e1887
    first | (rw [hB] at g1887; cases g1887) | skip
    refine zSaload (m := 1) (k := 1) vr_255_10 rfl rfl rfl ?_
    refine zScall vr_255_11 rfl rfl rfl (fun m1889 _ => C_coder _ _ _ _ d.2.1) (fun v1889 h1889 u1889 q1889 => ?_) (fun E1889 h1889 u1889 q1889 => ?_)
    · obtain ⟨eh1889, z1889⟩ := q1889
      replace eh1889 := eh1889.symm
      subst eh1889
      cases z1889
      show zL zrx zi _ 255 14 [(0, _), (1, _)] [_, _] _ _ _
      refine zSb2 (f := fun x y => decide (x = y)) (off := 7) (t := 21) vr_255_14 rfl rfl rfl (fun x1890 y1890 e1890 f1890 q1890 => ?_) (fun x1890 y1890 e1890 f1890 q1890 => ?_)
      · cases e1890
        cases f1890
        have c1890 := of_decide_eq_true q1890
        refine zSvoid vr_255_21 rfl ?_
        first
          | exact ⟨rfl, rfl⟩
          | exact absurd c1884 (by decide)
      · cases e1890
        cases f1890
        have c1890 := ndc q1890
        exact absurd rfl c1890
    · obtain ⟨-, z⟩ := q1889
      cases z
theorem C_pst (nf : Nat) (B s : Nat) (h : List zC) (u : Nat) {m W cap n : Nat} {f : Nat → Int32} (bx : BX m h B W cap n f) {T : Nat → Int32} {L b : Nat} (d : SB T L s b h) : zL zrx zi nf 256 0 [(0, .ref B), (1, .int (Int32.ofNat 0)), (2, .ref s)] [] h u (fun o h2 _ => o = .inl none ∧ hCpy h h2 b 0 W 0 L) := by
  refine zSaload (m := 1) (k := 0) vr_256_0 rfl rfl rfl ?_
  refine zSaload (m := 1) (k := 2) vr_256_1 rfl rfl rfl ?_
  refine zScall vr_256_2 rfl rfl rfl (fun m1894 _ => C_ifn _ _ _ _ _ bx.2.1 d) (fun v1894 h1894 u1894 q1894 => ?_) (fun E1894 h1894 u1894 q1894 => ?_)
  · obtain ⟨eh1894, z1894⟩ := q1894
    replace eh1894 := eh1894.symm
    subst eh1894
    cases z1894
    show zL zrx zi _ 256 5 [(0, _), (1, _), (2, _)] [] _ _ _
    refine zSaload (m := 1) (k := 2) vr_256_5 rfl rfl rfl ?_
    refine zSaload (m := 1) (k := 0) vr_256_6 rfl rfl rfl ?_
    refine zLget vr_256_7 rfl (fun p1897 w1897 e1897 t1897 g1897 => ?_)
    cases e1897
    first | (rw [bx.1] at g1897; cases g1897) | (rw [bx.2.1] at g1897; cases g1897) | skip
    refine zSiload (m := 1) (k := 1) vr_256_10 rfl rfl rfl (fun x1898 e1898 => ?_)
    cases e1898
    refine zSaload (m := 1) (k := 0) vr_256_11 rfl rfl rfl ?_
    refine zLget vr_256_12 rfl (fun p1900 w1900 e1900 t1900 g1900 => ?_)
    cases e1900
    first | (rw [bx.1] at g1900; cases g1900) | (rw [bx.2.1] at g1900; cases g1900) | skip
    refine zScall vr_256_15 rfl rfl rfl (fun m1901 _ => C_gby _ _ _ _ _ d) (fun v1901 h1901 u1901 q1901 => ?_) (fun E1901 h1901 u1901 q1901 => ?_)
    · obtain ⟨z1901, w1⟩ := q1901
      cases z1901
      show zL zrx zi _ 256 18 [(0, _), (1, _), (2, _)] [] _ _ _
      refine zSvoid vr_256_18 rfl ?_
      exact ⟨rfl, w1⟩
    · obtain ⟨z, -⟩ := q1901
      cases z
  · obtain ⟨-, z⟩ := q1894
    cases z
theorem C_app (nf : Nat) (B s : Nat) (h : List zC) (u : Nat) {m W cap : Nat} {f : Nat → Int32} (bx : BX m h B W cap 0 f) {T : Nat → Int32} {L b : Nat} (d : SB T L s b h) (hs : s < m) (hb : b < m) : zL zrx zi nf 249 0 [(0, .ref B), (1, .ref s)] [] h u (fun o h2 _ => o = .inl (some (.ref B)) ∧ KP m h h2 ∧ ∃ W2 cap2 : Nat, BX m h2 B W2 cap2 L T) := by
  refine zSaload (m := 1) (k := 1) vr_249_0 rfl rfl rfl ?_
  refine zLinn (t := 9) vr_249_1 rfl rfl (fun q1904 e1904 => ?_) (fun e1904 => by cases e1904)
  cases e1904
  refine zSaload (m := 1) (k := 1) vr_249_9 rfl rfl rfl ?_
  refine zScall vr_249_10 rfl rfl rfl (fun m1906 _ => C_slen _ _ _ _ d) (fun v1906 h1906 u1906 q1906 => ?_) (fun E1906 h1906 u1906 q1906 => ?_)
  · obtain ⟨eh1906, z1906⟩ := q1906
    replace eh1906 := eh1906.symm
    subst eh1906
    cases z1906
    show zL zrx zi _ 249 13 [(0, _), (1, _)] [_] _ _ _
    refine zSistore (m := 1) (k := 2) vr_249_13 rfl rfl (fun x1907 e1907 => ?_)
    cases e1907
    show zL zrx zi _ 249 14 [(2, _), (0, _), (1, _)] [] _ _ _
    refine zSaload (m := 1) (k := 0) vr_249_14 rfl rfl rfl ?_
    refine zSaload (m := 1) (k := 0) vr_249_15 rfl rfl rfl ?_
    refine zLget vr_249_16 rfl (fun p1910 w1910 e1910 t1910 g1910 => ?_)
    cases e1910
    first | (rw [bx.2.2.1] at g1910; cases g1910) | (rw [bx2.2.2.1] at g1910; cases g1910) | (rw [b3b] at g1910; cases g1910) | skip
    refine zSiload (m := 1) (k := 2) vr_249_19 rfl rfl rfl (fun x1911 e1911 => ?_)
    cases e1911
    refine zS2 (f := fun x y => .int (x + y)) vr_249_20 rfl rfl (fun x1912 y1912 e1912 f1912 => ?_)
    cases e1912
    cases f1912
    rw [on0_add L]
    refine zScall vr_249_21 rfl rfl rfl (fun m1913 _ => C_ens _ _ _ _ bx (by have := d.l60; omega)) (fun v1913 h1913 u1913 q1913 => ?_) (fun E1913 h1913 u1913 q1913 => ?_)
    · obtain ⟨z1913, w1, W2, cap2, bx2, le2⟩ := q1913
      cases z1913
      have d2 := d.kp w1 hs hb
      show zL zrx zi _ 249 24 [(2, _), (0, _), (1, _)] [] _ _ _
      refine zSaload (m := 1) (k := 0) vr_249_24 rfl rfl rfl ?_
      refine zSaload (m := 1) (k := 0) vr_249_25 rfl rfl rfl ?_
      refine zLget vr_249_26 rfl (fun p1916 w1916 e1916 t1916 g1916 => ?_)
      cases e1916
      first | (rw [bx.2.2.1] at g1916; cases g1916) | (rw [bx2.2.2.1] at g1916; cases g1916) | (rw [b3b] at g1916; cases g1916) | skip
      refine zSaload (m := 1) (k := 1) vr_249_29 rfl rfl rfl ?_
      refine zScall vr_249_30 rfl rfl rfl (fun m1918 _ => C_pst _ _ _ _ _ bx2 d2) (fun v1918 h1918 u1918 q1918 => ?_) (fun E1918 h1918 u1918 q1918 => ?_)
      · obtain ⟨z1918, w3⟩ := q1918
        cases z1918
        show zL zrx zi _ 249 33 [(2, _), (0, _), (1, _)] [] _ _ _
        have b3b : gF h1918 B 3 = some (.int (Int32.ofNat 0)) := by
          rw [w3.2.1, if_neg (fun z => bx2.2.2.2.2.2.2.2.2.2.2 z.1)]
          exact bx2.2.2.1
        refine zSaload (m := 1) (k := 0) vr_249_33 rfl rfl rfl ?_
        refine zSdup vr_249_34 rfl ?_
        refine zLget vr_249_35 rfl (fun p1921 w1921 e1921 t1921 g1921 => ?_)
        cases e1921
        first | (rw [bx.2.2.1] at g1921; cases g1921) | (rw [bx2.2.2.1] at g1921; cases g1921) | (rw [b3b] at g1921; cases g1921) | skip
        refine zSiload (m := 1) (k := 2) vr_249_38 rfl rfl rfl (fun x1922 e1922 => ?_)
        cases e1922
        refine zS2 (f := fun x y => .int (x + y)) vr_249_39 rfl rfl (fun x1923 y1923 e1923 f1923 => ?_)
        cases e1923
        cases f1923
        rw [on0_add L]
        refine zLput vr_249_40 rfl (fun p1924 k1924 e1924 t1924 g1924 => ?_)
        cases e1924
        refine zSaload (m := 1) (k := 0) vr_249_43 rfl rfl rfl ?_
        refine zSaret vr_249_44 rfl ?_
        obtain ⟨b1, b2, b3, b4, b5, b6, b7, b8, b9, b10, b11⟩ := bx2
        have old : ∀ x k, ¬ x = W2 → ¬ (x = B ∧ k = 3) → gF k1924 x k = gF h1913 x k := fun x k n1 n2 => by
          rw [g1924.2.1, if_neg n2, w3.2.1, if_neg (fun z => n1 z.1)]
        refine ⟨rfl, w1.trans ((KP.cpy w3 b10).trans (KP.put g1924 b9)), W2, cap2, ?_, ?_, ?_, ?_, ?_, le2, b7, fun i hi => ?_, b9, b10, b11⟩
        · rw [old B 0 b11 (by omega)]
          exact b1
        · rw [old B 1 b11 (by omega)]
          exact b2
        · rw [g1924.2.1, if_pos ⟨rfl, rfl⟩]
        · rw [g1924.2.2.2, w3.2.2.2]
          exact b4
        · rw [g1924.2.2.1, w3.2.2.1]
          exact b5
        · rw [g1924.2.1, if_neg (fun z => b11 z.1.symm), w3.2.1, if_pos ⟨rfl, Nat.zero_le _, by omega⟩, Nat.zero_add, Nat.sub_zero]
          exact (d2.2.2.2.2.1 i hi).1
      · obtain ⟨z, -⟩ := q1918
        cases z
    · obtain ⟨z, -⟩ := q1913
      cases z
  · obtain ⟨-, z⟩ := q1906
    cases z
theorem C_app4 (nf : Nat) (B s : Nat) (h : List zC) (u : Nat) {m W cap : Nat} {f : Nat → Int32} (bx : BX m h B W cap 0 f) {T : Nat → Int32} {L b : Nat} (d : SB T L s b h) (hs : s < m) (hb : b < m) : zL zrx zi nf 274 0 [(0, .ref B), (1, .ref s)] [] h u (fun o h2 _ => o = .inl (some (.ref B)) ∧ KP m h h2 ∧ ∃ W2 cap2 : Nat, BX m h2 B W2 cap2 L T) := by
  refine zSaload (m := 1) (k := 0) vr_274_0 rfl rfl rfl ?_
  refine zSaload (m := 1) (k := 1) vr_274_1 rfl rfl rfl ?_
  refine zScall vr_274_2 rfl rfl rfl (fun m1929 _ => C_app _ _ _ _ _ bx d hs hb) (fun v1929 h1929 u1929 q1929 => ?_) (fun E1929 h1929 u1929 q1929 => ?_)
  · obtain ⟨z1929, w1, w2⟩ := q1929
    cases z1929
    show zL zrx zi _ 274 5 [(0, _), (1, _)] [_] _ _ _
    refine zSpop vr_274_5 rfl ?_
    refine zSaload (m := 1) (k := 0) vr_274_6 rfl rfl rfl ?_
    refine zSaret vr_274_7 rfl ?_
    exact ⟨rfl, w1, w2⟩
  · obtain ⟨z, -⟩ := q1929
    cases z
theorem C_sbl (nf : Nat) (B : Nat) (h : List zC) (u : Nat) (hB : gF h B 1 = some (.int 0)) : zL zrx zi nf 254 0 [(0, .ref B)] [] h u (fun o h2 _ => h2 = h ∧ o = .inl (some (.int 1))) := by
  refine zScstV (v := .int (Int32.ofNat 1)) vr_254_0 rfl rfl ?_
  refine zSb1 (f := fun x => decide (x = 0)) (off := 14) (t := 17) vr_254_3 rfl rfl rfl (fun x1934 e1934 q1934 => ?_) (fun x1934 e1934 q1934 => ?_)
  · cases e1934
    have c1934 := of_decide_eq_true q1934
    refine zSp0 (pc' := 18) (st' := .int (0) :: _) vr_254_17 rfl rfl ?_
    refine zLiret vr_254_18 rfl (fun x1936 e1936 => ?_)
    cases e1936
    first
      | exact ⟨rfl, rfl⟩
      | exact absurd c1934 (by decide)
      | exact absurd rfl c1906
      | exact absurd c1906 (by decide)
  · cases e1934
    have c1934 := ndc q1934
    refine zSaload (m := 1) (k := 0) vr_254_6 rfl rfl rfl ?_
    refine zLget vr_254_7 rfl (fun p1938 w1938 e1938 t1938 g1938 => ?_)
    cases e1938
    first | (rw [hB] at g1938; cases g1938) | skip
    refine zSb1 (f := fun x => decide (¬ x = 0)) (off := 7) (t := 17) vr_254_10 rfl rfl rfl (fun x1939 e1939 q1939 => ?_) (fun x1939 e1939 q1939 => ?_)
    · cases e1939
      have c1939 := of_decide_eq_true q1939
      refine zSp0 (pc' := 18) (st' := .int (0) :: _) vr_254_17 rfl rfl ?_
      refine zLiret vr_254_18 rfl (fun x1941 e1941 => ?_)
      cases e1941
      first
        | exact ⟨rfl, rfl⟩
        | exact absurd c1934 (by decide)
        | exact absurd rfl c1939
        | exact absurd c1939 (by decide)
    · cases e1939
      have c1939 := ndc q1939
      refine zSp0 (pc' := 14) (st' := .int (1) :: _) vr_254_13 rfl rfl ?_
      refine zSgo (t := 18) vr_254_14 rfl rfl ?_
      refine zLiret vr_254_18 rfl (fun x1944 e1944 => ?_)
      cases e1944
      first
        | exact ⟨rfl, rfl⟩
        | exact absurd c1934 (by decide)
        | exact absurd rfl c1939
        | exact absurd c1939 (by decide)
theorem C_enc (nf : Nat) (c : Int32) (h : List zC) (u : Nat) (hc : rI 32 126 c) : zL zrx zi nf 280 0 [(0, .int c)] [] h u (fun o h2 _ => h2 = h ∧ o = .inl (some (.int 1))) := by
  refine zSiload (m := 1) (k := 0) vr_280_0 rfl rfl rfl (fun x1945 e1945 => ?_)
  cases e1945
  refine zSp0 (pc' := 4) (st' := .int (255) :: _) vr_280_1 rfl rfl ?_
  refine zSb2 (f := fun x y => decide (y < x)) (off := 7) (t := 11) vr_280_4 rfl rfl rfl (fun x1947 y1947 e1947 f1947 q1947 => ?_) (fun x1947 y1947 e1947 f1947 q1947 => ?_)
  · cases e1947
    cases f1947
    have c1947 := of_decide_eq_true q1947
    refine zSp0 (pc' := 12) (st' := .int (0) :: _) vr_280_11 rfl rfl ?_
    refine zLiret vr_280_12 rfl (fun x1949 e1949 => ?_)
    cases e1949
    first
      | exact ⟨rfl, rfl⟩
      | (exfalso
         have y := c1947
         rw [i32_lt] at y
         have z1 : (255 : Int32).toInt = 255 := rfl
         have z2 : (126 : Int32).toInt = 126 := rfl
         have := hc.2
         omega)
  · cases e1947
    cases f1947
    have c1947 := ndc q1947
    refine zSp0 (pc' := 8) (st' := .int (1) :: _) vr_280_7 rfl rfl ?_
    refine zSgo (t := 12) vr_280_8 rfl rfl ?_
    refine zLiret vr_280_12 rfl (fun x1952 e1952 => ?_)
    cases e1952
    first
      | exact ⟨rfl, rfl⟩
      | (exfalso
         have y := c1947
         rw [i32_lt] at y
         have z1 : (255 : Int32).toInt = 255 := rfl
         have z2 : (126 : Int32).toInt = 126 := rfl
         have := hc.2
         omega)
theorem C_apc (nf : Nat) (B : Nat) (c : Int32) (h : List zC) (u : Nat) {m W cap n : Nat} {f : Nat → Int32} (bx : BX m h B W cap n f) (hn : n ≤ 60) (hc : rI 32 126 c) : zL zrx zi nf 251 0 [(0, .ref B), (1, .int c)] [] h u (fun o h2 _ => o = .inl (some (.ref B)) ∧ KP m h h2 ∧ ∃ W2 cap2 : Nat, BX m h2 B W2 cap2 (n + 1) (fun i => if i = n then c else f i)) := by
  refine zSaload (m := 1) (k := 0) vr_251_0 rfl rfl rfl ?_
  refine zSaload (m := 1) (k := 0) vr_251_1 rfl rfl rfl ?_
  refine zLget vr_251_2 rfl (fun p1955 w1955 e1955 t1955 g1955 => ?_)
  cases e1955
  first | (rw [bx.2.2.1] at g1955; cases g1955) | (rw [bx2.1] at g1955; cases g1955) | (rw [bx2.2.2.1] at g1955; cases g1955) | skip
  refine zSp0 (pc' := 6) (st' := .int (1) :: _) vr_251_5 rfl rfl ?_
  refine zS2 (f := fun x y => .int (x + y)) vr_251_6 rfl rfl (fun x1957 y1957 e1957 f1957 => ?_)
  cases e1957
  cases f1957
  rw [ofNat_succ1]
  refine zScall vr_251_7 rfl rfl rfl (fun m1958 _ => C_ens _ (n + 1) _ _ bx (by omega)) (fun v1958 h1958 u1958 q1958 => ?_) (fun E1958 h1958 u1958 q1958 => ?_)
  · obtain ⟨z1958, w1, W2, cap2, bx2, le2⟩ := q1958
    cases z1958
    show zL zrx zi _ 251 10 [(0, _), (1, _)] [] _ _ _
    refine zSaload (m := 1) (k := 0) vr_251_10 rfl rfl rfl ?_
    refine zScall vr_251_11 rfl rfl rfl (fun m1960 _ => C_sbl _ _ _ _ bx2.2.1) (fun v1960 h1960 u1960 q1960 => ?_) (fun E1960 h1960 u1960 q1960 => ?_)
    · obtain ⟨eh1960, z1960⟩ := q1960
      replace eh1960 := eh1960.symm
      subst eh1960
      cases z1960
      show zL zrx zi _ 251 14 [(0, _), (1, _)] [_] _ _ _
      refine zSb1 (f := fun x => decide (x = 0)) (off := 31) (t := 45) vr_251_14 rfl rfl rfl (fun x1961 e1961 q1961 => ?_) (fun x1961 e1961 q1961 => ?_)
      · cases e1961
        have c1961 := of_decide_eq_true q1961
        first
          | exact absurd c1961 (by decide)
          | exact absurd c1913 (by decide)
      · cases e1961
        have c1961 := ndc q1961
        refine zSiload (m := 1) (k := 1) vr_251_17 rfl rfl rfl (fun x1962 e1962 => ?_)
        cases e1962
        refine zScall vr_251_18 rfl rfl rfl (fun m1963 _ => C_enc _ _ _ _ hc) (fun v1963 h1963 u1963 q1963 => ?_) (fun E1963 h1963 u1963 q1963 => ?_)
        · obtain ⟨eh1963, z1963⟩ := q1963
          replace eh1963 := eh1963.symm
          subst eh1963
          cases z1963
          show zL zrx zi _ 251 21 [(0, _), (1, _)] [_] _ _ _
          refine zSb1 (f := fun x => decide (x = 0)) (off := 24) (t := 45) vr_251_21 rfl rfl rfl (fun x1964 e1964 q1964 => ?_) (fun x1964 e1964 q1964 => ?_)
          · cases e1964
            have c1964 := of_decide_eq_true q1964
            first
              | exact absurd c1961 (by decide)
              | exact absurd c1964 (by decide)
          · cases e1964
            have c1964 := ndc q1964
            refine zSaload (m := 1) (k := 0) vr_251_24 rfl rfl rfl ?_
            refine zLget vr_251_25 rfl (fun p1966 w1966 e1966 t1966 g1966 => ?_)
            cases e1966
            first | (rw [bx.2.2.1] at g1966; cases g1966) | (rw [bx2.1] at g1966; cases g1966) | (rw [bx2.2.2.1] at g1966; cases g1966) | skip
            refine zSaload (m := 1) (k := 0) vr_251_28 rfl rfl rfl ?_
            refine zSdup vr_251_29 rfl ?_
            refine zLget vr_251_30 rfl (fun p1969 w1969 e1969 t1969 g1969 => ?_)
            cases e1969
            first | (rw [bx.2.2.1] at g1969; cases g1969) | (rw [bx2.1] at g1969; cases g1969) | (rw [bx2.2.2.1] at g1969; cases g1969) | skip
            refine zSdupx vr_251_33 rfl rfl ?_
            refine zSp0 (pc' := 35) (st' := .int (1) :: _) vr_251_34 rfl rfl ?_
            refine zS2 (f := fun x y => .int (x + y)) vr_251_35 rfl rfl (fun x1972 y1972 e1972 f1972 => ?_)
            cases e1972
            cases f1972
            refine zLput vr_251_36 rfl (fun p1973 k1973 e1973 t1973 g1973 => ?_)
            cases e1973
            refine zSiload (m := 1) (k := 1) vr_251_39 rfl rfl rfl (fun x1974 e1974 => ?_)
            cases e1974
            refine zS1 (f := fun x => .int x.toInt8.toInt32) vr_251_40 rfl rfl (fun x1975 e1975 => ?_)
            cases e1975
            refine zLbast vr_251_41 rfl (fun p1976 x1976 z1976 t1976 k1976 e1976 f1976 d1976 c1976 y1976 l1976 g1976 => ?_)
            cases e1976
            cases f1976
            cases d1976
            refine zSgo (t := 75) vr_251_42 rfl rfl ?_
            refine zSaload (m := 1) (k := 0) vr_251_75 rfl rfl rfl ?_
            refine zSaret vr_251_76 rfl ?_
            obtain ⟨b1, b2, b3, b4, b5, b6, b7, b8, b9, b10, b11⟩ := bx2
            have y5 := y1976
            rw [g1973.2.2.1, b5] at y5
            cases y5
            have gp := g1976
            rw [if_pos rfl, (toNat_ofNat (show n < 2147483648 by omega)).1] at gp
            have old : ∀ x k, ¬ (x = W2 ∧ k = n) → ¬ (x = B ∧ k = 3) → gF k1976 x k = gF h1958 x k := fun x k n1 n2 => by
              rw [gp.2.1, if_neg n1, g1973.2.1, if_neg n2]
            refine ⟨rfl, w1.trans ((KP.put g1973 b9).trans (KP.put gp b10)), W2, cap2, ?_, ?_, ?_, ?_, ?_, le2, b7, fun i hi => ?_, b9, b10, b11⟩
            · rw [old B 0 (fun z => b11 z.1) (by omega)]
              exact b1
            · rw [old B 1 (fun z => b11 z.1) (by omega)]
              exact b2
            · rw [gp.2.1, if_neg (fun z => b11 z.1), g1973.2.1, if_pos ⟨rfl, rfl⟩, ofNat_succ1]
            · rw [gp.2.2.2, g1973.2.2.2]
              exact b4
            · rw [gp.2.2.1, g1973.2.2.1]
              exact b5
            · by_cases e : i = n
              · show gF k1976 W2 i = some (Value.int (if i = n then c else f i))
                rw [if_pos e, gp.2.1, if_pos ⟨rfl, e⟩]
                show some (Value.int (c.toInt8.toInt32).toInt8.toInt32) = _
                rw [(ch_of hc).1]
              · show gF k1976 W2 i = some (Value.int (if i = n then c else f i))
                rw [if_neg e, old W2 i (fun z => e z.2) (fun z => b11 z.1.symm)]
                exact b8 i (by omega)
        · obtain ⟨-, z⟩ := q1963
          cases z
    · obtain ⟨-, z⟩ := q1960
      cases z
  · obtain ⟨z, -⟩ := q1958
    cases z
theorem C_apc4 (nf : Nat) (B : Nat) (c : Int32) (h : List zC) (u : Nat) {m W cap n : Nat} {f : Nat → Int32} (bx : BX m h B W cap n f) (hn : n ≤ 60) (hc : rI 32 126 c) : zL zrx zi nf 275 0 [(0, .ref B), (1, .int c)] [] h u (fun o h2 _ => o = .inl (some (.ref B)) ∧ KP m h h2 ∧ ∃ W2 cap2 : Nat, BX m h2 B W2 cap2 (n + 1) (fun i => if i = n then c else f i)) := by
  refine zSaload (m := 1) (k := 0) vr_275_0 rfl rfl rfl ?_
  refine zSiload (m := 1) (k := 1) vr_275_1 rfl rfl rfl (fun x1981 e1981 => ?_)
  cases e1981
  refine zScall vr_275_2 rfl rfl rfl (fun m1982 _ => C_apc _ _ _ _ _ bx hn hc) (fun v1982 h1982 u1982 q1982 => ?_) (fun E1982 h1982 u1982 q1982 => ?_)
  · obtain ⟨z1982, w1, w2⟩ := q1982
    cases z1982
    show zL zrx zi _ 275 5 [(0, _), (1, _)] [_] _ _ _
    refine zSpop vr_275_5 rfl ?_
    refine zSaload (m := 1) (k := 0) vr_275_6 rfl rfl rfl ?_
    refine zSaret vr_275_7 rfl ?_
    exact ⟨rfl, w1, w2⟩
  · obtain ⟨z, -⟩ := q1982
    cases z
theorem C_ckl (nf : Nat) (x y : Int32) (h : List zC) (u : Nat) (hxy : x ≤ y) : zL zrx zi nf 313 0 [(0, .int x), (1, .int y)] [] h u (fun o h2 _ => h2 = h ∧ o = .inl none) := by
  refine zSiload (m := 1) (k := 1) vr_313_0 rfl rfl rfl (fun x1986 e1986 => ?_)
  cases e1986
  refine zSiload (m := 1) (k := 0) vr_313_1 rfl rfl rfl (fun x1987 e1987 => ?_)
  cases e1987
  refine zSb2 (f := fun x y => decide (y ≤ x)) (off := 35) (t := 37) vr_313_2 rfl rfl rfl (fun x1988 y1988 e1988 f1988 q1988 => ?_) (fun x1988 y1988 e1988 f1988 q1988 => ?_)
  · cases e1988
    cases f1988
    have c1988 := of_decide_eq_true q1988
    refine zSvoid vr_313_37 rfl ?_
    exact ⟨rfl, rfl⟩
  · cases e1988
    cases f1988
    have c1988 := ndc q1988
    exact absurd c1988 (not_not_intro hxy)
theorem C_crb (nf : Nat) (W n : Nat) (h : List zC) (u : Nat) {cap : Nat} (hN : gN h W = some cap) (hn : n ≤ cap) (hc : cap ≤ 400) : zL zrx zi nf 315 0 [(0, .ref W), (1, .int 0), (2, .int (Int32.ofNat n))] [] h u (fun o h2 _ => o = .inl (some (.ref h.length)) ∧ KP h.length h h2 ∧ gN h2 h.length = some n ∧ ∀ i, i < n → gF h2 h.length i = gF h W i) := by
  refine zSiload (m := 1) (k := 1) vr_315_0 rfl rfl rfl (fun x1990 e1990 => ?_)
  cases e1990
  refine zSiload (m := 1) (k := 2) vr_315_1 rfl rfl rfl (fun x1991 e1991 => ?_)
  cases e1991
  refine zScall vr_315_2 rfl rfl rfl (fun m1992 _ => C_ckl _ _ _ _ _ (Int32.le_iff_toInt_le.mpr (by rw [(toNat_ofNat (show n < 2147483648 by omega)).2]; show (0 : Int) ≤ _; omega))) (fun v1992 h1992 u1992 q1992 => ?_) (fun E1992 h1992 u1992 q1992 => ?_)
  · obtain ⟨eh1992, z1992⟩ := q1992
    replace eh1992 := eh1992.symm
    subst eh1992
    cases z1992
    show zL zrx zi _ 315 5 [(0, _), (1, _), (2, _)] [] _ _ _
    refine zSiload (m := 1) (k := 2) vr_315_5 rfl rfl rfl (fun x1993 e1993 => ?_)
    cases e1993
    refine zSiload (m := 1) (k := 1) vr_315_6 rfl rfl rfl (fun x1994 e1994 => ?_)
    cases e1994
    refine zS2 (f := fun x y => .int (x - y)) vr_315_7 rfl rfl (fun x1995 y1995 e1995 f1995 => ?_)
    cases e1995
    cases f1995
    refine zSistore (m := 1) (k := 3) vr_315_8 rfl rfl (fun x1996 e1996 => ?_)
    cases e1996
    show zL zrx zi _ 315 9 [(3, _), (0, _), (1, _), (2, _)] [] _ _ _
    refine zSiload (m := 1) (k := 3) vr_315_9 rfl rfl rfl (fun x1997 e1997 => ?_)
    cases e1997
    refine zLnarr vr_315_10 rfl (fun m1998 k1998 u1998 e1998 n1998 g1998 => ?_)
    cases e1998
    refine zSastore (m := 2) (k := 4) vr_315_12 rfl rfl ?_
    show zL zrx zi _ 315 14 [(4, _), (3, _), (0, _), (1, _), (2, _)] [] _ _ _
    refine zSaload (m := 1) (k := 0) vr_315_14 rfl rfl rfl ?_
    refine zSiload (m := 1) (k := 1) vr_315_15 rfl rfl rfl (fun x2001 e2001 => ?_)
    cases e2001
    refine zSaload (m := 2) (k := 4) vr_315_16 rfl rfl rfl ?_
    refine zSp0 (pc' := 19) (st' := .int (0) :: _) vr_315_18 rfl rfl ?_
    refine zSaload (m := 1) (k := 0) vr_315_19 rfl rfl rfl ?_
    refine zLlen vr_315_20 rfl (fun p2005 m2005 e2005 g2005 => ?_)
    cases e2005
    have en := g2005
    rw [(g1998.ext.T (gN_lt hN)).2, hN] at en
    cases en
    refine zSiload (m := 1) (k := 1) vr_315_21 rfl rfl rfl (fun x2006 e2006 => ?_)
    cases e2006
    refine zS2 (f := fun x y => .int (x - y)) vr_315_22 rfl rfl (fun x2007 y2007 e2007 f2007 => ?_)
    cases e2007
    cases f2007
    refine zSiload (m := 1) (k := 3) vr_315_23 rfl rfl rfl (fun x2008 e2008 => ?_)
    cases e2008
    refine zScall vr_315_24 rfl rfl rfl (fun m2009 _ => C_mnI _ _ _ _ _) (fun v2009 h2009 u2009 q2009 => ?_) (fun E2009 h2009 u2009 q2009 => ?_)
    · obtain ⟨eh2009, z2009⟩ := q2009
      subst eh2009
      cases z2009
      show zL zrx zi _ 315 27 [(4, _), (3, _), (0, _), (1, _), (2, _)] [_, _, _, _, _] _ _ _
      refine zLarc vr_315_27 rfl (fun p2010 d2010 x2010 y2010 m2010 k2010 e2010 f2010 i2010 j2010 l2010 n2010 o2010 s2010 c2010 => ?_)
      cases e2010
      cases f2010
      cases i2010
      cases j2010
      cases l2010
      refine zSaload (m := 2) (k := 4) vr_315_30 rfl rfl rfl ?_
      refine zSaret vr_315_32 rfl ?_
      have lW := gN_lt hN
      have z0 : (0 : Int32).toNatClampNeg = 0 := rfl
      have hm : mnI (Int32.ofNat cap - 0) (Int32.ofNat n - 0) = Int32.ofNat n := by
        rw [Int32.sub_zero, Int32.sub_zero]
        unfold mnI
        by_cases z : Int32.ofNat n < Int32.ofNat cap
        · rw [if_pos z]
        · rw [if_neg z]
          rw [(on_lt (a := n) (b := cap) (by omega) (by omega)).1] at z
          rw [show cap = n by omega]
      have gc := c2010
      rw [hm, z0, (toNat_ofNat (show n < 2147483648 by omega)).1] at gc
      refine ⟨rfl, (KP.new g1998 (Nat.le_refl _)).trans (KP.cpy gc (Nat.le_refl _)), ?_, fun i hi => ?_⟩
      · rw [gc.2.2.2, g1998.cn.1, List.length_replicate, Int32.sub_zero, (toNat_ofNat (show n < 2147483648 by omega)).1]
      · rw [gc.2.1, if_pos ⟨rfl, Nat.zero_le _, by omega⟩, Nat.zero_add, Nat.sub_zero]
        exact g1998.ext.fld lW i
    · obtain ⟨-, z⟩ := q2009
      cases z
  · obtain ⟨-, z⟩ := q1992
    cases z
theorem C_cr (nf : Nat) (W n : Nat) (h : List zC) (u : Nat) {cap : Nat} (hN : gN h W = some cap) (hn : n ≤ cap) (hc : cap ≤ 400) : zL zrx zi nf 314 0 [(0, .ref W), (1, .int 0), (2, .int (Int32.ofNat n))] [] h u (fun o h2 _ => o = .inl (some (.ref h.length)) ∧ KP h.length h h2 ∧ gN h2 h.length = some n ∧ ∀ i, i < n → gF h2 h.length i = gF h W i) := by
  refine zSiload (m := 1) (k := 1) vr_314_0 rfl rfl rfl (fun x2013 e2013 => ?_)
  cases e2013
  refine zSb1 (f := fun x => decide (¬ x = 0)) (off := 9) (t := 10) vr_314_1 rfl rfl rfl (fun x2014 e2014 q2014 => ?_) (fun x2014 e2014 q2014 => ?_)
  · cases e2014
    have c2014 := of_decide_eq_true q2014
    refine zSaload (m := 1) (k := 0) vr_314_10 rfl rfl rfl ?_
    refine zSiload (m := 1) (k := 1) vr_314_11 rfl rfl rfl (fun x2016 e2016 => ?_)
    cases e2016
    refine zSiload (m := 1) (k := 2) vr_314_12 rfl rfl rfl (fun x2017 e2017 => ?_)
    cases e2017
    refine zScall vr_314_13 rfl rfl rfl (fun m2018 _ => C_crb _ _ _ _ _ hN hn hc) (fun v2018 h2018 u2018 q2018 => ?_) (fun E2018 h2018 u2018 q2018 => ?_)
    · obtain ⟨z2018, w1, w2, w3⟩ := q2018
      cases z2018
      show zL zrx zi _ 314 16 [(0, _), (1, _), (2, _)] [_] _ _ _
      refine zSaret vr_314_16 rfl ?_
      first
        | exact absurd rfl c2014
        | exact ⟨rfl, w1, w2, w3⟩
    · obtain ⟨z, -⟩ := q2018
      cases z
  · cases e2014
    have c2014 := ndc q2014
    refine zSiload (m := 1) (k := 2) vr_314_4 rfl rfl rfl (fun x2020 e2020 => ?_)
    cases e2020
    refine zSaload (m := 1) (k := 0) vr_314_5 rfl rfl rfl ?_
    refine zLlen vr_314_6 rfl (fun p2022 m2022 e2022 g2022 => ?_)
    cases e2022
    have en := g2022
    rw [hN] at en
    cases en
    refine zSb2 (f := fun x y => decide (x = y)) (off := 10) (t := 17) vr_314_7 rfl rfl rfl (fun x2023 y2023 e2023 f2023 q2023 => ?_) (fun x2023 y2023 e2023 f2023 q2023 => ?_)
    · cases e2023
      cases f2023
      have c2023 := of_decide_eq_true q2023
      refine zSaload (m := 1) (k := 0) vr_314_17 rfl rfl rfl ?_
      refine zLcln vr_314_18 rfl (fun p2025 l2025 k2025 u2025 e2025 n2025 c2025 g2025 => ?_)
      cases e2025
      refine zLcka vr_314_21 rfl (fun p2026 e2026 => ?_)
      cases e2026
      refine zSaret vr_314_24 rfl ?_
      have e := (on_eq (a := n) (b := cap) (by omega) (by omega)).mp c2023
      have ln := n2025
      rw [hN] at ln
      refine ⟨rfl, KP.new g2025 (Nat.le_refl _), ?_, fun i hi => ?_⟩
      · rw [g2025.cn.1, e]
        exact ln.symm
      · rw [g2025.fld]
        exact (c2025 i).symm
    · cases e2023
      cases f2023
      have c2023 := ndc q2023
      refine zSaload (m := 1) (k := 0) vr_314_10 rfl rfl rfl ?_
      refine zSiload (m := 1) (k := 1) vr_314_11 rfl rfl rfl (fun x2029 e2029 => ?_)
      cases e2029
      refine zSiload (m := 1) (k := 2) vr_314_12 rfl rfl rfl (fun x2030 e2030 => ?_)
      cases e2030
      refine zScall vr_314_13 rfl rfl rfl (fun m2031 _ => C_crb _ _ _ _ _ hN hn hc) (fun v2031 h2031 u2031 q2031 => ?_) (fun E2031 h2031 u2031 q2031 => ?_)
      · obtain ⟨z2031, w1, w2, w3⟩ := q2031
        cases z2031
        show zL zrx zi _ 314 16 [(0, _), (1, _), (2, _)] [_] _ _ _
        refine zSaret vr_314_16 rfl ?_
        first
          | exact absurd rfl c2014
          | exact ⟨rfl, w1, w2, w3⟩
      · obtain ⟨z, -⟩ := q2031
        cases z
theorem C_sgv (nf : Nat) (B : Nat) (h : List zC) (u : Nat) {m W cap n : Nat} {f : Nat → Int32} (bx : BX m h B W cap n f) : zL zrx zi nf 253 0 [(0, .ref B)] [] h u (fun o h2 _ => h2 = h ∧ o = .inl (some (.ref W))) := by
  refine zSaload (m := 1) (k := 0) vr_253_0 rfl rfl rfl ?_
  refine zLget vr_253_1 rfl (fun p2034 w2034 e2034 t2034 g2034 => ?_)
  cases e2034
  first | (rw [bx.1] at g2034; cases g2034) | skip
  refine zSaret vr_253_4 rfl ?_
  exact ⟨rfl, rfl⟩
theorem C_sln5 (nf : Nat) (B : Nat) (h : List zC) (u : Nat) {m W cap n : Nat} {f : Nat → Int32} (bx : BX m h B W cap n f) : zL zrx zi nf 245 0 [(0, .ref B)] [] h u (fun o h2 _ => h2 = h ∧ o = .inl (some (.int (Int32.ofNat n)))) := by
  refine zSaload (m := 1) (k := 0) vr_245_0 rfl rfl rfl ?_
  refine zLget vr_245_1 rfl (fun p2037 w2037 e2037 t2037 g2037 => ?_)
  cases e2037
  first | (rw [bx.2.2.1] at g2037; cases g2037) | skip
  refine zLiret vr_245_4 rfl (fun x2038 e2038 => ?_)
  cases e2038
  exact ⟨rfl, rfl⟩
theorem C_sln4 (nf : Nat) (B : Nat) (h : List zC) (u : Nat) {m W cap n : Nat} {f : Nat → Int32} (bx : BX m h B W cap n f) : zL zrx zi nf 278 0 [(0, .ref B)] [] h u (fun o h2 _ => h2 = h ∧ o = .inl (some (.int (Int32.ofNat n)))) := by
  refine zSaload (m := 1) (k := 0) vr_278_0 rfl rfl rfl ?_
  refine zScall vr_278_1 rfl rfl rfl (fun m2040 _ => C_sln5 _ _ _ _ bx) (fun v2040 h2040 u2040 q2040 => ?_) (fun E2040 h2040 u2040 q2040 => ?_)
  · obtain ⟨eh2040, z2040⟩ := q2040
    replace eh2040 := eh2040.symm
    subst eh2040
    cases z2040
    show zL zrx zi _ 278 4 [(0, _)] [_] _ _ _
    refine zLiret vr_278_4 rfl (fun x2041 e2041 => ?_)
    cases e2041
    exact ⟨rfl, rfl⟩
  · obtain ⟨-, z⟩ := q2040
    cases z
theorem C_sti (nf : Nat) (S : Nat) (h : List zC) (u : Nat) {m B W cap n : Nat} {f : Nat → Int32} (bx : BX m h B W cap n f) (hS : S < h.length) (hB : B < S) (hW : W < S) (hn : n ≤ 60) (hf : ∀ i, i < n → rI 32 126 (f i)) (s213 : 239 ≤ S) : zL zrx zi nf 267 0 [(0, .ref S), (1, .ref B), (2, .null)] [] h u (fun o h2 _ => o = .inl none ∧ KP S h h2 ∧ h2.length = h2.length ∧ SB f n S h.length h2) := by
  refine zSaload (m := 1) (k := 0) vr_267_0 rfl rfl rfl ?_
  refine zSobj vr_267_1 rfl ?_
  refine zSaload (m := 1) (k := 1) vr_267_4 rfl rfl rfl ?_
  refine zScall vr_267_5 rfl rfl rfl (fun m2045 _ => C_sgv _ _ _ _ bx) (fun v2045 h2045 u2045 q2045 => ?_) (fun E2045 h2045 u2045 q2045 => ?_)
  · obtain ⟨eh2045, z2045⟩ := q2045
    replace eh2045 := eh2045.symm
    subst eh2045
    cases z2045
    show zL zrx zi _ 267 8 [(0, _), (1, _), (2, _)] [_] _ _ _
    refine zSastore (m := 1) (k := 3) vr_267_8 rfl rfl ?_
    show zL zrx zi _ 267 9 [(3, _), (0, _), (1, _), (2, _)] [] _ _ _
    refine zSaload (m := 1) (k := 1) vr_267_9 rfl rfl rfl ?_
    refine zScall vr_267_10 rfl rfl rfl (fun m2048 _ => C_sln4 _ _ _ _ bx) (fun v2048 h2048 u2048 q2048 => ?_) (fun E2048 h2048 u2048 q2048 => ?_)
    · obtain ⟨eh2048, z2048⟩ := q2048
      replace eh2048 := eh2048.symm
      subst eh2048
      cases z2048
      show zL zrx zi _ 267 13 [(3, _), (0, _), (1, _), (2, _)] [_] _ _ _
      refine zSistore (m := 2) (k := 4) vr_267_13 rfl rfl (fun x2049 e2049 => ?_)
      cases e2049
      show zL zrx zi _ 267 15 [(4, _), (3, _), (0, _), (1, _), (2, _)] [] _ _ _
      refine zSaload (m := 1) (k := 1) vr_267_15 rfl rfl rfl ?_
      refine zScall vr_267_16 rfl rfl rfl (fun m2051 _ => C_sbl _ _ _ _ bx.2.1) (fun v2051 h2051 u2051 q2051 => ?_) (fun E2051 h2051 u2051 q2051 => ?_)
      · obtain ⟨eh2051, z2051⟩ := q2051
        replace eh2051 := eh2051.symm
        subst eh2051
        cases z2051
        show zL zrx zi _ 267 19 [(4, _), (3, _), (0, _), (1, _), (2, _)] [_] _ _ _
        refine zSb1 (f := fun x => decide (x = 0)) (off := 22) (t := 41) vr_267_19 rfl rfl rfl (fun x2052 e2052 q2052 => ?_) (fun x2052 e2052 q2052 => ?_)
        · cases e2052
          have c2052 := of_decide_eq_true q2052
          exact absurd c2052 (by decide)
        · cases e2052
          have c2052 := ndc q2052
          refine zSaload (m := 1) (k := 0) vr_267_22 rfl rfl rfl ?_
          refine zSp0 (pc' := 24) (st' := .int (0) :: _) vr_267_23 rfl rfl ?_
          refine zLput vr_267_24 rfl (fun p2055 k2055 e2055 t2055 g2055 => ?_)
          cases e2055
          have bx2 : BX m k2055 B W cap n f := by
            obtain ⟨b1, b2, b3, b4, b5, b6, b7, b8, b9, b10, b11⟩ := bx
            have kp := KP.put (m := S) g2055 (Nat.le_refl S)
            exact ⟨((kp.2 B hB).1 0).trans b1, ((kp.2 B hB).1 1).trans b2, ((kp.2 B hB).1 3).trans b3, (kp.2 W hW).2.2.trans b4, (kp.2 W hW).2.1.trans b5, b6, b7, fun i hi => ((kp.2 W hW).1 i).trans (b8 i hi), b9, b10, b11⟩
          refine zSaload (m := 1) (k := 0) vr_267_27 rfl rfl rfl ?_
          refine zSaload (m := 1) (k := 3) vr_267_28 rfl rfl rfl ?_
          refine zSp0 (pc' := 30) (st' := .int (0) :: _) vr_267_29 rfl rfl ?_
          refine zSiload (m := 2) (k := 4) vr_267_30 rfl rfl rfl (fun x2059 e2059 => ?_)
          cases e2059
          refine zScall vr_267_32 rfl rfl rfl (fun m2060 _ => C_cr _ _ _ _ _ bx2.2.2.2.1 bx2.2.2.2.2.2.1 bx2.2.2.2.2.2.2.1) (fun v2060 h2060 u2060 q2060 => ?_) (fun E2060 h2060 u2060 q2060 => ?_)
          · obtain ⟨z2060, w1, w2, w3⟩ := q2060
            cases z2060
            show zL zrx zi _ 267 35 [(4, _), (3, _), (0, _), (1, _), (2, _)] [_, _] _ _ _
            refine zLput vr_267_35 rfl (fun p2061 k2061 e2061 t2061 g2061 => ?_)
            cases e2061
            refine zSgo (t := 97) vr_267_38 rfl rfl ?_
            refine zSvoid vr_267_97 rfl ?_
            have l := g2055.1
            obtain ⟨b1, b2, b3, b4, b5, b6, b7, b8, b9, b10, b11⟩ := bx2
            have ln := w1.1
            have fr : ∀ x k, x < k2055.length → ¬ (x = S ∧ k = 0) → gF k2061 x k = gF k2055 x k := fun x k hx n1 => by
              rw [g2061.2.1, if_neg n1, (w1.2 x hx).1 k]
            refine ⟨rfl, (KP.put g2055 (Nat.le_refl S)).trans (⟨by rw [g2061.1]; exact ln, fun x hx => ⟨fun k => fr x k (by omega) (by omega), by rw [g2061.2.2.1]; exact (w1.2 x (by omega)).2.1, by rw [g2061.2.2.2]; exact (w1.2 x (by omega)).2.2⟩⟩), rfl, ?_, ?_, ?_, hn, fun i hi => ⟨?_, hf i hi⟩, by omega, by omega⟩
            · rw [g2061.2.1, if_pos ⟨rfl, rfl⟩, l]
            · rw [fr S 1 (by omega) (by omega), g2055.2.1, if_pos ⟨rfl, rfl⟩]
            · rw [g2061.2.2.2, ← l]
              exact w2
            · rw [g2061.2.1, if_neg (by omega), ← l, w3 i hi]
              exact b8 i hi
          · obtain ⟨z, -⟩ := q2060
            cases z
      · obtain ⟨-, z⟩ := q2051
        cases z
    · obtain ⟨-, z⟩ := q2048
      cases z
  · obtain ⟨-, z⟩ := q2045
    cases z
theorem C_sti0 (nf : Nat) (S : Nat) (h : List zC) (u : Nat) {m B W cap n : Nat} {f : Nat → Int32} (bx : BX m h B W cap n f) (hS : S < h.length) (hB : B < S) (hW : W < S) (hn : n ≤ 60) (hf : ∀ i, i < n → rI 32 126 (f i)) (s213 : 239 ≤ S) : zL zrx zi nf 263 0 [(0, .ref S), (1, .ref B)] [] h u (fun o h2 _ => o = .inl none ∧ KP S h h2 ∧ h2.length = h2.length ∧ SB f n S h.length h2) := by
  refine zSaload (m := 1) (k := 0) vr_263_0 rfl rfl rfl ?_
  refine zSaload (m := 1) (k := 1) vr_263_1 rfl rfl rfl ?_
  refine zSp0 vr_263_2 rfl rfl ?_
  refine zScall vr_263_3 rfl rfl rfl (fun m2067 _ => C_sti _ _ _ _ bx hS hB hW hn hf s213) (fun v2067 h2067 u2067 q2067 => ?_) (fun E2067 h2067 u2067 q2067 => ?_)
  · obtain ⟨z2067, w1⟩ := q2067
    cases z2067
    show zL zrx zi _ 263 6 [(0, _), (1, _)] [] _ _ _
    refine zSvoid vr_263_6 rfl ?_
    exact ⟨rfl, w1⟩
  · obtain ⟨z, -⟩ := q2067
    cases z
theorem C_tos (nf : Nat)  (h : List zC) (u : Nat) {m B W cap n : Nat} {f : Nat → Int32} (bx : BX m h B W cap n f) (hB : B < h.length) (hW : W < h.length) (hn : n ≤ 60) (hf : ∀ i, i < n → rI 32 126 (f i)) (h239 : 239 ≤ h.length) : zL zrx zi nf 277 0 [(0, .ref B)] [] h u (fun o h2 _ => ∃ b : Nat, o = .inl (some (.ref h.length)) ∧ KP h.length h h2 ∧ SB f n h.length b h2 ∧ h.length < b) := by
  refine zLnew2 vr_277_0 rfl (fun k2069 u2069 g2069 => ?_)
  refine zSdup vr_277_3 rfl ?_
  refine zSaload (m := 1) (k := 0) vr_277_4 rfl rfl rfl ?_
  have l := g2069.len
  have bxn := bx.kp (KP.new g2069 (Nat.le_refl _)) hB hW
  refine zScall vr_277_5 rfl rfl rfl (fun m2072 _ => C_sti0 _ _ _ _ bxn (by omega) hB hW hn hf h239) (fun v2072 h2072 u2072 q2072 => ?_) (fun E2072 h2072 u2072 q2072 => ?_)
  · obtain ⟨z2072, w1, -, w3⟩ := q2072
    cases z2072
    show zL zrx zi _ 277 8 [(0, _)] [_] _ _ _
    refine zSaret vr_277_8 rfl ?_
    exact ⟨_, rfl, (KP.new g2069 (Nat.le_refl _)).trans w1, w3, by rw [g2069.len]; omega⟩
  · obtain ⟨z, -⟩ := q2072
    cases z
abbrev Q_mfeed (T : Nat → Int32) (L : Nat) (c : Int32) (h : List zC) : zK := fun o h2 _ => ∃ x : Int32, o = .inl (some (.int x)) ∧ ((¬ rI 32 126 c ∧ x = 0 ∧ FD213 h h2 1) ∨ (rI 32 126 c ∧ L = 60 ∧ x = 0 ∧ FD213 h h2 2) ∨ (rI 32 126 c ∧ L < 60 ∧ x = Int32.ofNat (L + 1) ∧ gF h2 213 0 = some (.int 0) ∧ (∃ s2 b2 : Nat, SB (fun i => if i = L then c else T i) (L + 1) s2 b2 h2 ∧ gF h2 213 10 = some (.ref s2) ∧ h.length ≤ s2 ∧ h.length ≤ b2) ∧ h.length ≤ h2.length ∧ (∀ x k, x < h.length → ¬ (x = 213 ∧ (k = 0 ∨ k = 10)) → gF h2 x k = gF h x k) ∧ ∀ x, x < h.length → gT h2 x = gT h x ∧ gN h2 x = gN h x))
theorem C_mfeed (nf : Nat) (c : Int32) (h : List zC) (u : Nat) {T : Nat → Int32} {L s b : Nat} (h0 : 239 ≤ h.length) (sb : SB T L s b h) (e10 : gF h 213 10 = some (.ref s)) : zL zrx zi nf 160 0 [(0, .ref 213), (1, .int c)] [] h u (Q_mfeed T L c h) := by
  refine zSaload (m := 1) (k := 0) vr_160_0 rfl rfl rfl ?_
  refine zSp0 (pc' := 2) (st' := .int (0) :: _) vr_160_1 rfl rfl ?_
  refine zLput vr_160_2 rfl (fun p2076 k2076 e2076 t2076 g2076 => ?_)
  cases e2076
  refine zSiload (m := 1) (k := 1) vr_160_5 rfl rfl rfl (fun x2077 e2077 => ?_)
  cases e2077
  refine zSp0 (pc' := 8) (st' := .int (32) :: _) vr_160_6 rfl rfl ?_
  refine zSb2 (f := fun x y => decide (x < y)) (off := 9) (t := 17) vr_160_8 rfl rfl rfl (fun x2079 y2079 e2079 f2079 q2079 => ?_) (fun x2079 y2079 e2079 f2079 q2079 => ?_)
  · cases e2079
    cases f2079
    have c2079 := of_decide_eq_true q2079
    refine zSaload (m := 1) (k := 0) vr_160_17 rfl rfl rfl ?_
    refine zSp0 (pc' := 19) (st' := .int (1) :: _) vr_160_18 rfl rfl ?_
    refine zScall vr_160_19 rfl rfl rfl (fun m2082 _ => C_no _ 213 _ _ _) (fun v2082 h2082 u2082 q2082 => ?_) (fun E2082 h2082 u2082 q2082 => ?_)
    · obtain ⟨w2082, z2082⟩ := q2082
      cases z2082
      show zL zrx zi _ 160 22 [(0, _), (1, _)] [_] _ _ _
      refine zLiret vr_160_22 rfl (fun x2083 e2083 => ?_)
      cases e2083
      refine ⟨_, rfl, Or.inl ⟨fun hc => ?_, rfl, FD213.mk2 g2076 w2082⟩⟩
      have z1 : (32 : Int32).toInt = 32 := rfl
      have z2 : (126 : Int32).toInt = 126 := rfl
      obtain ⟨hc1, hc2⟩ := hc
      first
        | (have y := c2079
           rw [i32_lt] at y
           omega)
        | (have y := c2000
           rw [i32_le] at y
           omega)
    · obtain ⟨-, z⟩ := q2082
      cases z
  · cases e2079
    cases f2079
    have c2079 := ndc q2079
    refine zSiload (m := 1) (k := 1) vr_160_11 rfl rfl rfl (fun x2084 e2084 => ?_)
    cases e2084
    refine zSp0 (pc' := 14) (st' := .int (126) :: _) vr_160_12 rfl rfl ?_
    refine zSb2 (f := fun x y => decide (x ≤ y)) (off := 9) (t := 23) vr_160_14 rfl rfl rfl (fun x2086 y2086 e2086 f2086 q2086 => ?_) (fun x2086 y2086 e2086 f2086 q2086 => ?_)
    · cases e2086
      cases f2086
      have c2086 := of_decide_eq_true q2086
      have hc : rI 32 126 c := by
        have y1 := c2079
        have y2 := c2086
        rw [i32_lt] at y1
        rw [i32_le] at y2
        exact ⟨by omega, y2⟩
      have e10b : gF k2076 213 10 = some (.ref s) := by
        rw [g2076.2.1, if_neg (by omega)]
        exact e10
      have sb2 := sb.same (fun x k n => by rw [g2076.2.1, if_neg (fun w => n w.1)]) (g2076.2.2.2 b)
      refine zSaload (m := 1) (k := 0) vr_160_23 rfl rfl rfl ?_
      refine zLget vr_160_24 rfl (fun p2088 w2088 e2088 t2088 g2088 => ?_)
      cases e2088
      first | (rw [e10] at g2088; cases g2088) | (rw [e10b] at g2088; cases g2088) | (rw [e10c] at g2088; cases g2088) | skip
      refine zScall vr_160_27 rfl rfl rfl (fun m2089 _ => C_slen _ _ _ _ sb2) (fun v2089 h2089 u2089 q2089 => ?_) (fun E2089 h2089 u2089 q2089 => ?_)
      · obtain ⟨eh2089, z2089⟩ := q2089
        replace eh2089 := eh2089.symm
        subst eh2089
        cases z2089
        show zL zrx zi _ 160 30 [(0, _), (1, _)] [_] _ _ _
        refine zSp0 (pc' := 32) (st' := .int (60) :: _) vr_160_30 rfl rfl ?_
        refine zSb2 (f := fun x y => decide (¬ x = y)) (off := 9) (t := 41) vr_160_32 rfl rfl rfl (fun x2091 y2091 e2091 f2091 q2091 => ?_) (fun x2091 y2091 e2091 f2091 q2091 => ?_)
        · cases e2091
          cases f2091
          have c2091 := of_decide_eq_true q2091
          have l60 : L < 60 := by
            have y := c2091
            have := sb.l60
            have ne : ¬ L = 60 := fun z => y (by rw [z]; rfl)
            omega
          have ls := gF_lt sb.1
          have lb := gN_lt sb.2.2.1
          have lk := g2076.1
          refine zSaload (m := 1) (k := 0) vr_160_41 rfl rfl rfl ?_
          refine zLnew2 vr_160_42 rfl (fun k2093 u2093 g2093 => ?_)
          refine zSdup vr_160_45 rfl ?_
          have ln := g2093.len
          have b3 : gF k2093 k2076.length 3 = some (.int 0) := by
            rw [g2093.fld]
            exact zDef0.2
          refine zScall vr_160_46 rfl rfl rfl (fun m2095 _ => C_sbn _ _ _ _ (by omega) b3) (fun v2095 h2095 u2095 q2095 => ?_) (fun E2095 h2095 u2095 q2095 => ?_)
          · obtain ⟨z2095, w1, bx1⟩ := q2095
            cases z2095
            show zL zrx zi _ 160 49 [(0, _), (1, _)] [_, _] _ _ _
            refine zSaload (m := 1) (k := 0) vr_160_49 rfl rfl rfl ?_
            have kp1 := (KP.new g2093 (Nat.le_refl _)).trans w1
            have e10c : gF h2095 213 10 = some (.ref s) := ((kp1.2 213 (by omega)).1 10).trans e10b
            have sb3 := sb2.kp kp1 (by omega) (by omega)
            refine zLget vr_160_50 rfl (fun p2097 w2097 e2097 t2097 g2097 => ?_)
            cases e2097
            first | (rw [e10] at g2097; cases g2097) | (rw [e10b] at g2097; cases g2097) | (rw [e10c] at g2097; cases g2097) | skip
            refine zScall vr_160_53 rfl rfl rfl (fun m2098 _ => C_app4 _ _ _ _ _ bx1 sb3 (by omega) (by omega)) (fun v2098 h2098 u2098 q2098 => ?_) (fun E2098 h2098 u2098 q2098 => ?_)
            · obtain ⟨z2098, w2, W2, cap2, bx2⟩ := q2098
              cases z2098
              show zL zrx zi _ 160 56 [(0, _), (1, _)] [_, _] _ _ _
              refine zSiload (m := 1) (k := 1) vr_160_56 rfl rfl rfl (fun x2099 e2099 => ?_)
              cases e2099
              refine zS1 (f := fun x => .int (x.toUInt32 % 65536).toInt32) vr_160_57 rfl rfl (fun x2100 e2100 => ?_)
              cases e2100
              rw [(ch_of hc).2]
              refine zScall vr_160_58 rfl rfl rfl (fun m2101 _ => C_apc4 _ _ _ _ _ bx2 (by omega) hc) (fun v2101 h2101 u2101 q2101 => ?_) (fun E2101 h2101 u2101 q2101 => ?_)
              · obtain ⟨z2101, w4, W4, cap4, bx4⟩ := q2101
                cases z2101
                show zL zrx zi _ 160 61 [(0, _), (1, _)] [_, _] _ _ _
                refine zScall vr_160_61 rfl rfl rfl (fun m2102 _ => C_tos _ _ _ bx4 (gF_lt bx4.1) (gN_lt bx4.2.2.2.1) (by omega) (hf_of sb.2.2.2.2.1 hc) (by have := w1.1; have := w2.1; have := w4.1; omega)) (fun v2102 h2102 u2102 q2102 => ?_) (fun E2102 h2102 u2102 q2102 => ?_)
                · obtain ⟨b5, z2102, w5, w6, lb5⟩ := q2102
                  cases z2102
                  show zL zrx zi _ 160 64 [(0, _), (1, _)] [_, _] _ _ _
                  refine zLput vr_160_64 rfl (fun p2103 k2103 e2103 t2103 g2103 => ?_)
                  cases e2103
                  have e10d : gF k2103 213 10 = _ := (g2103.2.1 213 10).trans (if_pos ⟨rfl, rfl⟩)
                  have sb5 := w6.same (fun x k n => by rw [g2103.2.1, if_neg (fun w => n w.1)]) (g2103.2.2.2 _)
                  refine zSaload (m := 1) (k := 0) vr_160_67 rfl rfl rfl ?_
                  refine zLget vr_160_68 rfl (fun p2105 w2105 e2105 t2105 g2105 => ?_)
                  cases e2105
                  first | (rw [e10d] at g2105; cases g2105) | skip
                  refine zScall vr_160_71 rfl rfl rfl (fun m2106 _ => C_slen _ _ _ _ sb5) (fun v2106 h2106 u2106 q2106 => ?_) (fun E2106 h2106 u2106 q2106 => ?_)
                  · obtain ⟨eh2106, z2106⟩ := q2106
                    replace eh2106 := eh2106.symm
                    subst eh2106
                    cases z2106
                    show zL zrx zi _ 160 74 [(0, _), (1, _)] [_] _ _ _
                    refine zLiret vr_160_74 rfl (fun x2107 e2107 => ?_)
                    cases e2107
                    have q1 := w1.1
                    have q2 := w2.1
                    have q4 := w4.1
                    have kp := ((kp1.trans (w2.mono (by omega))).trans w4).trans (w5.mono (by omega))
                    have old : ∀ x k, x < h.length → ¬ (x = 213 ∧ (k = 0 ∨ k = 10)) → gF k2103 x k = gF h x k := fun x k hx n => by
                      rw [g2103.2.1, if_neg (by omega), (kp.2 x (by omega)).1 k, g2076.2.1, if_neg (by omega)]
                    refine ⟨_, rfl, Or.inr (Or.inr ⟨hc, l60, rfl, ?_, ⟨_, _, sb5, e10d, ?_, ?_⟩, ?_, old, fun x hx => ?_⟩)⟩
                    · rw [g2103.2.1, if_neg (by omega), (kp.2 213 (by omega)).1 0, g2076.2.1, if_pos ⟨rfl, rfl⟩]
                    · have := w2.1
                      have := w4.1
                      have := w1.1
                      omega
                    · have := w2.1
                      have := w4.1
                      have := w1.1
                      omega
                    · have := kp.1
                      rw [g2103.1]
                      omega
                    · rw [g2103.2.2.1, g2103.2.2.2, (kp.2 x (by omega)).2.1, (kp.2 x (by omega)).2.2]
                      exact ⟨g2076.2.2.1 x, g2076.2.2.2 x⟩
                  · obtain ⟨-, z⟩ := q2106
                    cases z
                · obtain ⟨_, z, -⟩ := q2102
                  cases z
              · obtain ⟨z, -⟩ := q2101
                cases z
            · obtain ⟨z, -⟩ := q2098
              cases z
          · obtain ⟨z, -⟩ := q2095
            cases z
        · cases e2091
          cases f2091
          have c2091 := ndc q2091
          refine zSaload (m := 1) (k := 0) vr_160_35 rfl rfl rfl ?_
          refine zSp0 (pc' := 37) (st' := .int (2) :: _) vr_160_36 rfl rfl ?_
          refine zScall vr_160_37 rfl rfl rfl (fun m2110 _ => C_no _ 213 _ _ _) (fun v2110 h2110 u2110 q2110 => ?_) (fun E2110 h2110 u2110 q2110 => ?_)
          · obtain ⟨w2110, z2110⟩ := q2110
            cases z2110
            show zL zrx zi _ 160 40 [(0, _), (1, _)] [_] _ _ _
            refine zLiret vr_160_40 rfl (fun x2111 e2111 => ?_)
            cases e2111
            have e60 : L = 60 := (on_eq (a := L) (b := 60) (by have := sb.l60; omega) (by omega)).mp (Decidable.not_not.mp c2091)
            exact ⟨_, rfl, Or.inr (Or.inl ⟨hc, e60, rfl, FD213.mk2 g2076 w2110⟩)⟩
          · obtain ⟨-, z⟩ := q2110
            cases z
      · obtain ⟨-, z⟩ := q2089
        cases z
    · cases e2086
      cases f2086
      have c2086 := ndc q2086
      refine zSaload (m := 1) (k := 0) vr_160_17 rfl rfl rfl ?_
      refine zSp0 (pc' := 19) (st' := .int (1) :: _) vr_160_18 rfl rfl ?_
      refine zScall vr_160_19 rfl rfl rfl (fun m2114 _ => C_no _ 213 _ _ _) (fun v2114 h2114 u2114 q2114 => ?_) (fun E2114 h2114 u2114 q2114 => ?_)
      · obtain ⟨w2114, z2114⟩ := q2114
        cases z2114
        show zL zrx zi _ 160 22 [(0, _), (1, _)] [_] _ _ _
        refine zLiret vr_160_22 rfl (fun x2115 e2115 => ?_)
        cases e2115
        refine ⟨_, rfl, Or.inl ⟨fun hc => ?_, rfl, FD213.mk2 g2076 w2114⟩⟩
        have z1 : (32 : Int32).toInt = 32 := rfl
        have z2 : (126 : Int32).toInt = 126 := rfl
        obtain ⟨hc1, hc2⟩ := hc
        first
          | (have y := c2079
             rw [i32_lt] at y
             omega)
          | (have y := c2086
             rw [i32_le] at y
             omega)
      · obtain ⟨-, z⟩ := q2114
        cases z
